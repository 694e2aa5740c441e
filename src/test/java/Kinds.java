/** The kinds of blocks and the holes by their names, and ways to put programs together shortly. */
final class Kinds {
    static final int GO = 0, TURN = 1, TAKE = 2, PUT = 3, SET = 4, SAY = 5, CALL = 6, WAIT = 7, MAKE = 8, LAY = 9;
    static final int REPEAT = 10, WHILE = 11, IF = 12;
    static final int NUMBER = 13, MINE = 14, SUM = 15, HERE = 16, ITEM = 17, PART = 18;
    static final int WALLED = 19, LESS = 20, NOT = 21, MET = 22;
    static final int NEXT = 0, BODY = 1, OTHER = 2, FIRST = 3, SECOND = 4;
    static final int FLAG = 0, CALLED = 1, EVERY = 2, MEETING = 3;

    private Kinds() {
    }

    /** Feeds a text to the tape, byte by byte. */
    static void feed(BlockStage x, String text) {
        for (int i = 0; i < text.length(); i++) x.feed(text.charAt(i), 1);
    }

    /** Reads a wish from a text. */
    static int wish(BlockStage x, String text) {
        feed(x, text);
        return x.wish();
    }

    /** A block in a hole of another one. */
    static int in(BlockStage x, int host, int hole, int kind, int n) {
        int block = x.block(kind, n);
        if (x.join(host, hole, block) != 1) throw new IllegalStateException("does not fit: " + kind);
        return block;
    }

    /** Blocks without numbers, each in the NEXT of the one ahead; the first is TOP of a new script. */
    static int row(BlockStage x, int actor, int cap, int c, int again, int... kinds) {
        int script = x.cue(actor, cap, c, again);
        int last = -1;
        for (int kind : kinds) {
            if (last < 0) {
                last = x.block(kind, 0);
                x.top(script, last);
            } else {
                last = in(x, last, NEXT, kind, 0);
            }
        }
        return script;
    }

    /** The written text of a script. */
    static String text(BlockStage x, int script) {
        int length = x.write(script);
        StringBuilder text = new StringBuilder();
        for (int i = 0; i < length; i++) text.append((char) x.text(i));
        return text.toString();
    }
}
