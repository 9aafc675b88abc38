import java.io.IOException;
import java.lang.reflect.Constructor;
import java.lang.reflect.Field;
import java.lang.reflect.InvocationTargetException;
import java.lang.reflect.Method;
import java.lang.reflect.Modifier;
import java.nio.file.Files;
import java.nio.file.Path;
import java.util.ArrayList;
import java.util.Arrays;
import java.util.Comparator;
import java.util.HashSet;
import java.util.List;
import java.util.Set;
import java.util.TreeSet;
import java.util.regex.Matcher;
import java.util.regex.Pattern;

/** The face of the class, the rules of LANGUAGE.md that a text shows, and what any arguments may throw. */
public final class FaceTest {
    private static final String INDEX = "IndexOutOfBoundsException";
    private static final String ARGUMENT = "IllegalArgumentException";
    private static final String STATE = "IllegalStateException";
    private static final String[] FACE = {
        "int pond 3 " + INDEX + " " + ARGUMENT + " " + STATE,
        "int gate 3 " + INDEX + " " + ARGUMENT,
        "int gear 3 " + INDEX + " " + ARGUMENT,
        "int set 2 " + INDEX + " " + ARGUMENT,
        "int pass 1 " + ARGUMENT,
        "int sack 3 " + INDEX + " " + ARGUMENT + " " + STATE,
        "int carry 2 " + INDEX + " " + STATE,
        "int back 1 " + STATE,
        "int append 1 " + ARGUMENT + " " + STATE,
        "int clearBuffer 0",
        "int firstError 0",
        "int play 0 " + ARGUMENT,
        "int undo 0 " + STATE,
        "int keep 0",
        "int restore 0 " + STATE,
        "int mill 2 " + INDEX + " " + ARGUMENT,
        "int sackAt 2 " + INDEX + " " + ARGUMENT,
        "int sackOf 2 " + ARGUMENT,
        "int whyNot 1 " + INDEX,
        "int tide 1 " + ARGUMENT,
        "int count 1 " + ARGUMENT,
        "int next 1 " + ARGUMENT,
        "int chosen 0",
        "int ifPassed 2 " + ARGUMENT,
        "int groundIn 1",
        "int bestStone 1 " + INDEX,
        "double inTime 0",
        "long digest 0",
    };
    private static final int[] ODD = {Integer.MIN_VALUE, -1000, -1, 0, 1, 2, 3, 4, 5, 6, 8, 11, 12, 13, 33, 48, 49,
        50, 60, 61, 126, 127, 500, 501, 999, 1000, 9999, 10000, Integer.MAX_VALUE};

    private static final Check check = new Check("FaceTest");

    private FaceTest() {
    }

    public static void main(String[] args) throws IOException, IllegalAccessException {
        face();
        nothingElseIsVisible();
        source(Files.readString(Path.of("src/main/java/TideMills.java")));
        anyArguments();
        check.end();
    }

    private static String told(Method method) {
        StringBuilder told = new StringBuilder(method.getReturnType().getName());
        told.append(' ').append(method.getName()).append(' ').append(method.getParameterCount());
        for (Class<?> thrown : method.getExceptionTypes()) {
            told.append(' ').append(thrown.getSimpleName());
        }
        for (Class<?> type : method.getParameterTypes()) {
            if (type != int.class) {
                check.report(method.getName() + " takes a " + type);
            }
        }
        return told.toString();
    }

    private static void face() {
        Set<String> found = new TreeSet<>();
        for (Method method : TideMills.class.getDeclaredMethods()) {
            if (Modifier.isPublic(method.getModifiers())) {
                found.add(told(method));
            }
        }
        check.dueText("the face", new TreeSet<>(Arrays.asList(FACE)).toString(), found.toString());
        check.due("constructors", 1, TideMills.class.getConstructors().length);
        check.due("constants", 1, TideMills.class.getFields().length);
        check.due("public final", Modifier.PUBLIC | Modifier.FINAL, TideMills.class.getModifiers());
    }

    private static void nothingElseIsVisible() {
        Set<String> publicNames = new HashSet<>();
        for (Method method : TideMills.class.getDeclaredMethods()) {
            if (Modifier.isPublic(method.getModifiers())) {
                check.due("a second " + method.getName(), 1, publicNames.add(method.getName()) ? 1 : 0);
            }
        }
        List<Class<?>> classes = new ArrayList<>(Arrays.asList(TideMills.class.getDeclaredClasses()));
        check.due("at most 12 classes", 1, classes.size() <= 11 ? 1 : 0);
        for (Class<?> inside : classes) {
            int modifiers = inside.getModifiers();
            if (!Modifier.isStatic(modifiers) || Modifier.isPublic(modifiers) || Modifier.isProtected(modifiers)) {
                check.report(inside + " is not static and hidden");
            }
        }
        classes.add(TideMills.class);
        for (Class<?> its : classes) {
            for (Method method : its.getDeclaredMethods()) {
                hidden(its, method.getName(), method.getModifiers(), publicNames);
            }
            int fields = 0;
            for (Field field : its.getDeclaredFields()) {
                hidden(its, field.getName(), field.getModifiers(), publicNames);
                fields += Modifier.isStatic(field.getModifiers()) ? 0 : 1;
                if (Modifier.isStatic(field.getModifiers()) && !Modifier.isFinal(field.getModifiers())) {
                    check.report(field + " is static and not final");
                }
            }
            check.due("at most 20 fields in " + its, 1, fields <= 20 ? 1 : 0);
            for (Constructor<?> constructor : its.getDeclaredConstructors()) {
                check.due("parameters", 1, constructor.getParameterCount() <= 7 ? 1 : 0);
            }
        }
    }

    private static void hidden(Class<?> its, String name, int modifiers, Set<String> publicNames) {
        boolean ofTheFace = its == TideMills.class && Modifier.isPublic(modifiers);
        if (its == TideMills.class && !ofTheFace && !Modifier.isPrivate(modifiers)) {
            check.report(name + " can be seen from outside");
        }
        if (!ofTheFace && publicNames.contains(name)) {
            check.report(its + " uses the public name " + name + " again");
        }
    }

    private static void source(String text) {
        Matcher forbidden = Pattern.compile("\\b(import|package|try|catch|finally|synchronized|assert|record|"
                + "System\\.(?!arraycopy)|equals|hashCode|toString|lambda|Exact|MAX_VALUE|MIN_VALUE|"
                + "volatile|transient|native)\\b|->|::")
                .matcher(text.replaceAll("/\\*.*?\\*/|//[^\n]*", ""));
        while (forbidden.find()) {
            check.report("TideMills.java uses " + forbidden.group());
        }
        String[] lines = text.split("\n");
        int start = 0;
        for (int i = 0; i < lines.length; i++) {
            if (lines[i].isBlank() || lines[i].matches("\\s*(//|/\\*).*")) {
                start = i + 1;
            }
            if (i - start > 60) {
                check.report("a method of more than 60 lines at line " + (i + 1));
            }
            if (lines[i].length() > 120) {
                check.report("line " + (i + 1) + " is long");
            }
        }
    }

    /** Far more calls than are promised: what they answer is free, but the machine must not throw. */
    private static void anyArguments() throws IllegalAccessException {
        Method[] methods = TideMills.class.getDeclaredMethods();
        Arrays.sort(methods, Comparator.comparing(Method::getName));
        long seed = 4;
        for (int object = 0; object < 3; object++) {
            TideMills mills = new TideMills();
            for (int call = 0; call < 12000; call++) {
                seed = seed * 6364136223846793005L + 1442695040888963407L;
                Method method = methods[(int) ((seed >>> 33) % methods.length)];
                if (Modifier.isPublic(method.getModifiers())) {
                    seed = callOddly(mills, method, seed);
                }
            }
        }
    }

    private static long callOddly(TideMills mills, Method method, long before) throws IllegalAccessException {
        long seed = before;
        Object[] values = new Object[method.getParameterCount()];
        for (int i = 0; i < values.length; i++) {
            seed = seed * 6364136223846793005L + 1442695040888963407L;
            int odd = ODD[(int) ((seed >>> 33) % ODD.length)];
            values[i] = (seed >>> 40) % 3 == 0 ? odd : i == 0 ? (int) ((seed >>> 45) % 5) : (int) ((seed >>> 45) % 60);
        }
        try {
            method.invoke(mills, values);
        } catch (InvocationTargetException e) {
            if (!Arrays.asList(method.getExceptionTypes()).contains(e.getCause().getClass())) {
                check.report(method.getName() + Arrays.toString(values) + " throws " + e.getCause());
            }
        }
        return seed;
    }
}
