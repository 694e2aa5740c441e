/**
 * Cases, each about one sentence of the document that stands there word by word, each on a new object.
 * A case fails alone: what goes wrong in it, an exception too, leaves the others.
 */
abstract class Edges {
    static final int NONE = -1, BAD = -2, STATE = -3, FULL = -4, NO = Integer.MIN_VALUE;
    static final int MIN = Integer.MIN_VALUE, MAX = Integer.MAX_VALUE;
    static final int FLAG = 0, CALLED = 1, EVERY = 2, MEETING = 3;
    /** Behind 63 ticks of it VALUE is the greatest int. */
    static final String GREATEST = "REPEAT(31)(SET(SUM(SUM(MINE)(MINE))(1))) ";
    /** Behind 64 ticks of it VALUE is the least int. */
    static final String LEAST = GREATEST + "SET(SUM(MINE)(1)) ";

    interface Calls {
        void on(BlockStage x);
    }

    private final Doc doc;
    private String about = "";
    private int asked = 0;
    private int cases = 0;
    private int failed = 0;
    private boolean right = true;

    Edges(Doc doc) {
        this.doc = doc;
    }

    abstract void run();

    final int cases() {
        return cases;
    }

    final int failed() {
        return failed;
    }

    final void promise(int number, String sentence, Calls calls) {
        one("promise " + number, sentence, calls);
    }

    final void term(int number, String sentence, Calls calls) {
        one("term " + number, sentence, calls);
    }

    final void answers(String sentence, Calls calls) {
        one("answers", sentence, calls);
    }

    final void constant(String sentence, Calls calls) {
        one("constants", sentence, calls);
    }

    final void limit(String sentence, Calls calls) {
        one("limit", sentence, calls);
    }

    private void one(String section, String sentence, Calls calls) {
        about = section + " '" + sentence + "'";
        asked = 0;
        right = true;
        if (!doc.tell(section, sentence)) wrong("the document does not say so, or more than once");
        try {
            calls.on(new BlockStage());
        } catch (RuntimeException e) {
            wrong(e + " at " + java.util.Arrays.toString(e.getStackTrace()));
        }
        if (asked == 0) wrong("nothing was asked");
        cases++;
        if (!right) failed++;
    }

    private void wrong(String what) {
        right = false;
        System.out.println(about + ": " + what);
    }

    /** Whether an answer is as due; the line of the case is told if it is not. */
    final void is(long got, long due) {
        asked++;
        if (got == due) return;
        StackTraceElement[] lines = new Throwable().getStackTrace();
        int i = 1;
        while (i < lines.length - 1 && lines[i].getFileName().equals("Edges.java")) i++;
        wrong(lines[i].getFileName() + ":" + lines[i].getLineNumber() + ": answered " + got + ", due is " + due);
    }

    final void isText(String got, String due) {
        asked++;
        if (!got.equals(due)) wrong("the text is '" + got + "', due is '" + due + "'");
    }

    /** The blocks at which a script is behind one tick each; -1 where it sleeps. */
    final void places(BlockStage x, int script, int... due) {
        for (int block : due) {
            x.tick(1);
            is(x.scriptOf(script, 6), block);
            is(x.scriptOf(script, 5), block < 0 ? 0 : 1);
        }
    }

    /** What the round of the words is worth to actor 0 in a new run, or the refusal; no script says it then. */
    final int worth(BlockStage x, String round) {
        int script = Words.flagged(x, "SAY(" + round + ")");
        x.flag();
        x.tick(1);
        int worth = x.scriptOf(script, 5) == 2 ? x.scriptOf(script, 7) : x.said(0, 1);
        x.take(x.scriptOf(script, 4));
        return worth;
    }
}
