/**
 * Programs from words: "REPEAT(3)(GO SAY(SUM(MINE)(-1))) TURN2". A row of orders by blanks; behind an
 * order or a round what is in its holes FIRST, SECOND, BODY, OTHER, as many as it has; a number alone
 * is a NUMBER. The blocks are numbered as they stand in the words.
 */
final class Words {
    private static final String[] KINDS = {
        "GO", "TURN", "TAKE", "PUT", "SET", "SAY", "CALL", "WAIT", "MAKE", "LAY", "REPEAT", "WHILE", "IF",
        "", "MINE", "SUM", "HERE", "ITEM", "PART", "WALLED", "LESS", "NOT", "MET"};
    private static final String[] HOLES = {
        "", "", "", "", "3", "3", "", "", "3", "34", "31", "31", "312",
        "", "", "34", "", "3", "34", "", "34", "3", ""};

    private final BlockStage x;
    private final String words;
    private int at = 0;

    private Words(BlockStage x, String words) {
        this.x = x;
        this.words = words;
    }

    /** The first block of what the words tell. */
    static int blocks(BlockStage x, String words) {
        Words w = new Words(x, words);
        int first = w.row();
        w.must(w.at == words.length());
        return first;
    }

    /** A new script of which the words tell the top. */
    static int script(BlockStage x, int actor, int cap, int c, int again, String words) {
        int top = blocks(x, words);
        int script = x.cue(actor, cap, c, again);
        if (x.top(script, top) != 1) throw new IllegalStateException("no top: " + words);
        return script;
    }

    /** A new script of actor 0 that wakes by the flag. */
    static int flagged(BlockStage x, String words) {
        return script(x, 0, 0, 0, 0, words);
    }

    private void must(boolean so) {
        if (!so) throw new IllegalStateException("at " + at + " of " + words);
    }

    private int row() {
        int first = -1;
        int last = -1;
        while (at < words.length() && words.charAt(at) != ')') {
            if (words.charAt(at) == ' ') {
                at++;
                continue;
            }
            int block = one();
            if (last < 0) first = block;
            else must(x.join(last, 0, block) == 1);
            last = block;
        }
        return first;
    }

    private int one() {
        String name = many("ABCDEFGHIJKLMNOPQRSTUVWXYZ");
        String number = many("-0123456789");
        int kind = java.util.Arrays.asList(KINDS).indexOf(name);
        int block = x.block(kind, number.isEmpty() ? 0 : Integer.parseInt(number));
        must(kind >= 0 && block >= 0);
        for (int i = 0; i < HOLES[kind].length() && at < words.length() && words.charAt(at) == '('; i++) {
            at++;
            int in = row();
            if (in >= 0) must(x.join(block, HOLES[kind].charAt(i) - '0', in) == 1);
            must(at < words.length() && words.charAt(at) == ')');
            at++;
        }
        return block;
    }

    private String many(String signs) {
        int from = at;
        while (at < words.length() && signs.indexOf(words.charAt(at)) >= 0) at++;
        return words.substring(from, at);
    }
}
