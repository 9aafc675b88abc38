/** Tests of the document's boundary sentences, one sentence a call. */
final class Edge {
    interface Setup {
        void make(TideMills mills);
    }

    interface Call {
        double answer(TideMills mills);
    }

    interface CallWith {
        double answer(TideMills mills, int value);
    }

    static final Setup NEW = mills -> { };
    static final Class<IndexOutOfBoundsException> INDEX = IndexOutOfBoundsException.class;
    static final Class<IllegalArgumentException> ARGUMENT = IllegalArgumentException.class;
    static final Class<IllegalStateException> STATE = IllegalStateException.class;

    private final Check check;

    Edge(String test) {
        check = new Check(test);
    }

    void end() {
        check.end();
    }

    void due(String sentence, double want, double got) {
        check.due(sentence, want, got);
    }

    void dueText(String sentence, String want, String got) {
        check.dueText(sentence, want, got);
    }

    static TideMills made(Setup setup) {
        TideMills mills = new TideMills();
        setup.make(mills);
        return mills;
    }

    static void type(TideMills mills, String text) {
        for (int at = 0; at < text.length(); at++) {
            mills.append(text.charAt(at));
        }
    }

    static Setup typed(String text) {
        return mills -> type(mills, text);
    }

    /** An allowed call and its answer. */
    void answers(String sentence, double want, Setup setup, Call call) {
        check.due(sentence, want, call.answer(made(setup)));
    }

    /** A call that is refused, after which nothing has changed, be the saved states few or six. */
    void refuses(String sentence, Class<? extends RuntimeException> want, Setup setup, Call call) {
        refusesHere(sentence, want, setup, call);
        refusesHere(sentence + " (with 6 saved states and a snapshot)", want, mills -> {
            setup.make(mills);
            fillStates(mills);
        }, call);
    }

    /** The same with these saved states alone. */
    void refusesHere(String sentence, Class<? extends RuntimeException> want, Setup setup, Call call) {
        TideMills mills = made(setup);
        check.dueText(sentence + ": throws", want.getName(), thrownBy(mills, call));
        check.dueText(sentence + ": after the refused call", View.withAllStates(made(setup)),
                View.withAllStates(mills));
    }

    private static String thrownBy(TideMills mills, Call call) {
        try {
            call.answer(mills);
        } catch (RuntimeException e) {
            return e.getClass().getName();
        }
        return "nothing";
    }

    /** Each state another one, and another one than the snapshot, so that a lost one shows. */
    private static void fillStates(TideMills mills) {
        int before = mills.count(13);
        mills.set(2, 95);
        mills.keep();
        for (int value = 96; value < 100; value++) {
            mills.set(2, value);
        }
        mills.set(2, before);
    }

    /** A call that only looks: nothing has changed after it. */
    void changesNothing(String sentence, Setup setup, Call call) {
        TideMills mills = made(setup);
        call.answer(mills);
        check.dueText(sentence + ": after it", View.withAllStates(made(setup)), View.withAllStates(mills));
    }

    /** The least and the most that a new object allows for a parameter, and what it refuses beyond them. */
    void range(String sentence, Class<? extends RuntimeException> beyond, int least, int most, CallWith call) {
        for (int value : new int[] {least, most}) {
            String thrown = thrownBy(new TideMills(), mills -> call.answer(mills, value));
            check.dueText(sentence + ": throws with " + value, "nothing", thrown);
        }
        for (int value : new int[] {least - 1, most + 1, Integer.MIN_VALUE, Integer.MAX_VALUE}) {
            refuses(sentence + ": with " + value, beyond, NEW, mills -> call.answer(mills, value));
        }
    }
}
