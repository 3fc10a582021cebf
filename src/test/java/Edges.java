import java.util.List;

/** What the edge tests say of an answer; counts, and tells each that is not as due with its sentence. */
final class Edges {
    /** An object in which nothing is as at first, so that whatever a call changes is seen. */
    static final String[] RICH = {"road u90l25c2,b70l12,p60l1c9,m50c3;0=1,2+3,2=2+20;=0", "go()", "heed(50)", "well(9)",
        "image()", "go() x2", "heed(40)", "well(8)", "move(1, 5)", "type p7,b8;3=1", "sheet(0, 0, 3)",
        "item(0, 0, 0, 1)", "item(0, 0, 1, 2)", "sheet(1, 1, 2)", "item(1, 1, 1, 3)", "sheet(2, 3, 0)"};

    private final Sentences document;
    private String sentence = "";
    private int wrong;
    private int answers;

    Edges(Sentences document) {
        this.document = document;
    }

    int wrong() {
        return wrong;
    }

    int answers() {
        return answers;
    }

    /** What follows tests the sentence of a promise (0: of the Terms) that begins so. */
    void sentence(int promise, String beginning) {
        sentence = document.tested(promise, beginning);
    }

    void due(Caller x, String call, long want) {
        is(call, x.ask(call), want);
    }

    /** Calls, each with the answer that is due, on one object. */
    void dues(Caller x, Object... callsAndAnswers) {
        for (int i = 0; i < callsAndAnswers.length; i += 2) {
            due(x, (String) callsAndAnswers[i], (Integer) callsAndAnswers[i + 1]);
        }
    }

    void is(String what, long got, long want) {
        answers++;
        if (got != want) {
            wrong++;
            System.out.println(sentence + ":\n    " + what + " answered " + got + ", due is " + want);
        }
    }

    /** Each of the calls, on an object of its own, is refused so, and all is as if it had not been asked. */
    void refused(int want, String[] begin, String... calls) {
        for (String call : calls) {
            Caller x = new Caller(begin);
            due(x, call, want);
            like(x, "behind " + call, begin);
        }
    }

    /** Each of the calls, on an object of its own, changes nothing, whatever it answers. */
    void changesNothing(String[] begin, String... calls) {
        for (String call : calls) {
            Caller x = new Caller(begin);
            x.ask(call);
            like(x, "behind " + call, begin);
        }
    }

    /** All of it is as in an object that has come another way. */
    void like(Caller x, String what, String... script) {
        List<String> got = x.everything(), want = new Caller(script).everything();
        answers++;
        if (got.equals(want)) {
            return;
        }
        wrong++;
        int i = 0;
        while (i < got.size() && i < want.size() && got.get(i).equals(want.get(i))) {
            i++;
        }
        System.out.println(sentence + ":\n    " + what + " there is " + (i < got.size() ? got.get(i) : "nothing more")
            + ", due is " + (i < want.size() ? want.get(i) : "nothing more"));
    }

    static String[] then(String[] begin, String... more) {
        String[] both = java.util.Arrays.copyOf(begin, begin.length + more.length);
        System.arraycopy(more, 0, both, begin.length, more.length);
        return both;
    }

    static String[] with(String... script) {
        return script;
    }
}
