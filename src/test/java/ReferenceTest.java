import java.lang.reflect.InvocationTargetException;
import java.lang.reflect.Method;
import java.util.Arrays;
import java.util.HashMap;
import java.util.Map;

/** Long runs of calls, each answer compared with that of ReferenceMills. */
public final class ReferenceTest {
    private static final int RUNS = 300;
    private static final int CALLS = 512;
    private static final int STYLES = 6;
    private static final String LIKELY = "sg+,,,;;0123456789";

    private static final Check check = new Check("ReferenceTest");
    private static final Map<String, Method> faceOfMills = methods(TideMills.class);
    private static final Map<String, Method> faceOfReference = methods(ReferenceMills.class);

    private final TideMills mills = new TideMills();
    private final ReferenceMills reference = new ReferenceMills();
    private final int style;
    private long seed;
    private String name = "";
    private int[] values = {};

    private ReferenceTest(int run) {
        style = run % STYLES;
        seed = run * 7919L + 17;
    }

    public static void main(String[] args) throws IllegalAccessException {
        for (int run = 0; run < RUNS; run++) {
            new ReferenceTest(run).compare(run);
        }
        check.end();
    }

    private static Map<String, Method> methods(Class<?> face) {
        Map<String, Method> methods = new HashMap<>();
        for (Method method : face.getDeclaredMethods()) {
            methods.put(method.getName(), method);
        }
        return methods;
    }

    private void compare(int run) throws IllegalAccessException {
        for (int call = 0; call < CALLS; call++) {
            chooseCall(call);
            String want = outcome(faceOfReference.get(name), reference);
            String got = outcome(faceOfMills.get(name), mills);
            check.dueText("run " + run + ", call " + call + ": " + name + Arrays.toString(values), want, got);
        }
    }

    private String outcome(Method method, Object asked) throws IllegalAccessException {
        Object[] boxed = new Object[values.length];
        for (int i = 0; i < values.length; i++) {
            boxed[i] = values[i];
        }
        try {
            return "" + method.invoke(asked, boxed);
        } catch (InvocationTargetException e) {
            return e.getCause().getClass().getName();
        }
    }

    private void call(String itsName, int... itsValues) {
        name = itsName;
        values = itsValues;
    }

    private int below(int bound) {
        seed = seed * 6364136223846793005L + 1442695040888963407L;
        return (int) ((seed >>> 33) % bound);
    }

    /** Mostly in the range, at its ends more often than by chance, at times beyond it. */
    private int within(int least, int most) {
        int odd = below(60);
        if (odd == 0) {
            return least - 1;
        }
        if (odd == 1) {
            return most + 1;
        }
        if (odd == 2) {
            return below(2) == 0 ? Integer.MIN_VALUE : Integer.MAX_VALUE;
        }
        if (odd < 9) {
            return below(2) == 0 ? least : most;
        }
        return least + below(most - least + 1);
    }

    private void chooseCall(int number) {
        if (number % 16 == 15) {
            call("digest");
            return;
        }
        int kind = below(style == 4 ? 120 : 44);
        if (kind < 9) {
            call("sack", mill(), style == 2 ? within(1, 30) : within(1, 999), due());
        } else if (kind < 15) {
            call("pass", below(4) == 0 ? within(1, 48) : within(1, 4));
        } else if (kind < 22) {
            chooseMillCall(kind);
        } else if (kind < 26) {
            chooseSackCall();
        } else if (kind < 30) {
            chooseUndoCall();
        } else if (kind < 42) {
            chooseLook(below(12));
        } else {
            chooseTextCall();
        }
    }

    private int mill() {
        return style == 5 ? within(0, 1) : within(0, 4);
    }

    private int due() {
        if (style == 0) {
            return within(1, 9999);
        }
        return style == 1 ? within(1, 8) : reference.s.hour + within(1, 30);
    }

    private int knownSack() {
        int least = Math.max(0, reference.s.came - 12);
        return below(5) == 0 ? within(0, reference.s.came) : within(least, Math.max(0, reference.s.came - 1));
    }

    private void chooseMillCall(int kind) {
        if (kind < 17) {
            call("pond", mill(), within(50, below(2) == 0 ? 120 : 500), within(0, 60));
        } else if (kind == 17) {
            int from = within(0, 11);
            call("gate", mill(), from, from >= 0 && from <= 11 && below(3) > 0 ? within(from, 11) : within(0, 11));
        } else if (kind < 20) {
            call("gear", mill(), within(8, 60), within(8, 60));
        } else {
            int setting = within(0, 2);
            int least = setting == 0 ? 1 : setting == 1 ? 0 : 5;
            int most = setting == 0 ? 15 : below(4) == 0 ? 100 : 30;
            call("set", setting, within(least, most));
        }
    }

    private void chooseSackCall() {
        if (below(5) == 0) {
            call("back", knownSack());
        } else {
            call("carry", knownSack(), mill());
        }
    }

    private void chooseUndoCall() {
        int kind = below(7);
        call(kind < 4 ? "undo" : kind < 6 ? "keep" : "restore");
    }

    private void chooseTextCall() {
        int kind = below(30);
        if (kind == 0) {
            call("clearBuffer");
        } else if (kind == 1) {
            call("append", within(33, 126));
        } else if (kind <= 4) {
            call("firstError");
        } else if (kind <= 6 || reference.firstError() < reference.buffer.length()) {
            call(kind <= 20 ? "play" : "clearBuffer");
        } else {
            call("append", followingCode());
        }
    }

    /** Mostly one that can follow, so that long texts come about. */
    private int followingCode() {
        int length = reference.buffer.length();
        int code = 's';
        for (int tries = 0; tries < 12; tries++) {
            code = LIKELY.charAt(below(LIKELY.length()));
            reference.buffer.append((char) code);
            boolean fits = reference.firstError() == length + 1;
            reference.buffer.setLength(length);
            if (fits || below(40) == 0) {
                return code;
            }
        }
        return code;
    }

    private void chooseLook(int kind) {
        if (kind == 0) {
            call("mill", mill(), within(0, 10));
        } else if (kind == 1) {
            call("sackAt", mill(), within(0, 7));
        } else if (kind == 2) {
            call("sackOf", knownSack(), within(0, 4));
        } else if (kind == 3) {
            call("whyNot", mill());
        } else if (kind == 4) {
            call("tide", within(0, 40));
        } else if (kind == 5) {
            call("count", within(0, 14));
        } else if (kind == 6) {
            call("next", within(0, 5));
        } else if (kind == 7) {
            call("chosen");
        } else if (kind == 8) {
            call("ifPassed", within(1, 48), within(0, 3));
        } else if (kind == 9) {
            call("groundIn", knownSack());
        } else if (kind == 10) {
            call("bestStone", mill());
        } else {
            call("inTime");
        }
    }
}
