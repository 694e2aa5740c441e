/** Promises 31 to 35: texts, acts, the trace, families. */
public final class TextsAndActsTest {
    private static final int NONE = -1, BAD = -2, STATE = -3;
    private static final int MIN = Integer.MIN_VALUE, MAX = Integer.MAX_VALUE;
    private static final Check check = new Check();

    public static void main(String[] args) {
        write();
        writtenText();
        longTexts();
        act();
        actWraps();
        trace();
        taken();
        check.end();
    }

    private static void due(String call, long got, long want) {
        check.due(call, got, want);
    }

    private static void isText(BlockStage x, int script, String want) {
        String got = Kinds.text(x, script);
        check.holds("the text '" + got + "' is '" + want + "'", got.equals(want));
        due("text beyond", x.text(want.length()), NONE);
        due("text(-1)", x.text(-1), NONE);
    }

    private static void write() {
        check.about("31 write");
        BlockStage x = new BlockStage();
        due("write(0) without scripts", x.write(0), NONE);
        x.cue(0, 0, 0, 0);
        due("write(0) without a top", x.write(0), STATE);
        due("write(-1)", x.write(-1), NONE);
        due("write(1)", x.write(1), NONE);
        for (int kind = 0; kind <= 12; kind++) {
            x = new BlockStage();
            Kinds.row(x, 0, 0, 0, 0, kind, kind);
            String[] holes = {"", "0", "", "", "()", "()", "0", "", "()", "()()", "()()", "()()", "()()()"};
            String one = (char) ('a' + kind) + holes[kind];
            isText(x, 0, one + one);
        }
        for (int kind = 13; kind <= 22; kind++) {
            x = new BlockStage();
            x.block(Kinds.SAY, 0);
            Kinds.in(x, 0, Kinds.FIRST, kind, kind == 13 ? -99 : 0);
            x.cue(0, 0, 0, 0);
            x.top(0, 0);
            String[] holes = {"-99", "", "()()", "", "()", "()()", "", "()()", "()", ""};
            isText(x, 0, "f(" + (char) ('a' + kind) + holes[kind - 13] + ")");
        }
    }

    private static void writtenText() {
        check.about("32 text");
        BlockStage x = new BlockStage();
        due("text(0)", x.text(0), NONE);
        x.cue(0, 0, 0, 0);
        int shell = x.block(Kinds.IF, 0);
        x.top(0, shell);
        int less = Kinds.in(x, shell, Kinds.FIRST, Kinds.LESS, 0);
        Kinds.in(x, less, 3, Kinds.NUMBER, -5);
        int ten = Kinds.in(x, less, 4, Kinds.NUMBER, 10);
        int lay = Kinds.in(x, shell, Kinds.BODY, Kinds.LAY, 0);
        Kinds.in(x, lay, Kinds.SECOND, Kinds.MINE, 0);
        int call = Kinds.in(x, lay, Kinds.NEXT, Kinds.CALL, 3);
        Kinds.in(x, shell, Kinds.OTHER, Kinds.TURN, 2);
        Kinds.in(x, shell, Kinds.NEXT, Kinds.GO, 0);
        isText(x, 0, "m(u(n-5)(n10))(j()(o)g3)(b2)a");
        x.number(ten, 0);
        x.take(call);
        due("text(10) as it was", x.text(10), '1');
        due("write(1)", x.write(1), NONE);
        x.cue(0, 0, 0, 0);
        due("write(1) without a top", x.write(1), STATE);
        due("text(0) behind refusals", x.text(0), 'm');
        due("text(28) behind refusals", x.text(28), 'a');
        isText(x, 0, "m(u(n-5)(n0))(j()(o))(b2)a");
        x.flag();
        x.write(0);
        due("count(4): the run goes on", x.count(4), 0);
        x.take(shell);
        due("write(0)", x.write(0), STATE);
    }

    private static void longTexts() {
        check.about("31 the longest texts");
        BlockStage x = new BlockStage();
        int[] ifs = new int[30];
        java.util.Arrays.fill(ifs, Kinds.IF);
        Kinds.row(x, 0, 0, 0, 0, ifs);
        due("write(0) of 30 in a row", x.write(0), 210);
        due("text(209)", x.text(209), ')');
        due("text(210)", x.text(210), NONE);
        x = new BlockStage();
        x.cue(0, 0, 0, 0);
        x.top(0, x.block(Kinds.IF, 0));
        StringBuilder text = new StringBuilder();
        StringBuilder tail = new StringBuilder();
        for (int i = 1; i < 30; i++) {
            Kinds.in(x, i - 1, i % 2 == 0 ? Kinds.BODY : Kinds.OTHER, Kinds.IF, 0);
            text.append(i % 2 == 0 ? "m()(" : "m()()(");
            tail.insert(0, i % 2 == 0 ? ")()" : ")");
        }
        isText(x, 0, text.append("m()()()").append(tail).toString());
        x = new BlockStage();
        x.cue(0, 0, 0, 0);
        x.top(0, x.block(Kinds.SET, 0));
        StringBuilder sums = new StringBuilder("e(");
        Kinds.in(x, 0, Kinds.FIRST, Kinds.SUM, 0);
        for (int i = 2; i < 29; i++) {
            Kinds.in(x, i - 1, Kinds.SECOND, Kinds.SUM, 0);
            sums.append("p()(");
        }
        Kinds.in(x, 28, Kinds.SECOND, Kinds.NUMBER, -99);
        sums.append("p()(n-99");
        for (int i = 0; i < 29; i++) sums.append(')');
        isText(x, 0, sums.toString());
        deepRounds();
    }

    /** Rounds as deep as blocks go are worked out. */
    private static void deepRounds() {
        BlockStage x = new BlockStage();
        x.actor(0, 0, 0);
        x.cue(0, 0, 0, 0);
        x.top(0, x.block(Kinds.SET, 0));
        for (int i = 1; i < 30; i++) Kinds.in(x, i - 1, Kinds.FIRST, Kinds.NOT, 0);
        due("flag()", x.flag(), 1);
        due("tick(1)", x.tick(1), 1);
        due("who(0, 3)", x.who(0, 3), 1);
        x = new BlockStage();
        x.actor(0, 0, 0);
        x.cue(0, 0, 0, 0);
        x.top(0, x.block(Kinds.SET, 0));
        Kinds.in(x, 0, Kinds.FIRST, Kinds.SUM, 0);
        for (int i = 2; i < 29; i++) Kinds.in(x, i - 1, i % 3 == 0 ? 3 : 4, Kinds.SUM, 0);
        Kinds.in(x, 28, Kinds.FIRST, Kinds.NUMBER, 77);
        x.flag();
        x.tick(1);
        due("who(0, 3) of 28 sums", x.who(0, 3), 77);
    }

    /** Of each family, by hand from Terms 6. */
    private static void act() {
        check.about("33 act");
        int[] kinds = {Kinds.TURN, Kinds.REPEAT, Kinds.NUMBER, Kinds.LESS};
        for (int family = 0; family < 4; family++) {
            BlockStage x = new BlockStage();
            for (int i = 0; i < 5; i++) x.block(Kinds.GO, 0);
            int m = x.block(kinds[family], 0);
            int n = family == 0 ? 3 : family == 2 ? -40 : 0;
            if (n != 0) x.number(m, n);
            for (int v : new int[] {0, 1, -1, 17, 1000000, MIN, MAX}) {
                due("act(0, " + v + ") of family " + family, x.act(m, 0, v), runs(family, v, m, n));
                due("act(1, " + v + ") of family " + family, x.act(m, 1, v), costs(family, v, m, n));
                due("act(2, " + v + ") of family " + family, x.act(m, 2, v), tells(family, v, m, n));
            }
        }
        BlockStage x = new BlockStage();
        x.block(Kinds.GO, 0);
        x.act(0, 1, 5);
        due("count(9)", x.count(9), 3);
        due("act(1, 0, 5)", x.act(1, 0, 5), 0);
        due("count(9) of no such block", x.count(9), 0);
        due("trace(0) of no such block", x.trace(0), NONE);
        x.act(0, 1, 5);
        due("act(0, 3, 5)", x.act(0, 3, 5), 0);
        due("trace(0) of no such act", x.trace(0), NONE);
        due("act(0, -1, 5)", x.act(0, -1, 5), 0);
        due("act(-1, 0, 5)", x.act(-1, 0, 5), 0);
        due("count(9) of no such act", x.count(9), 0);
    }

    private static int runs(int family, int x, int m, int n) {
        int any = x + m;
        return family < 2 ? any - n : family == 3 ? any ^ 7 : any;
    }

    private static int costs(int family, int x, int m, int n) {
        int any = runs(family, x, m, n) * 2;
        return family == 1 ? any + 3 : family >= 2 ? any * 3 : any;
    }

    private static int tells(int family, int x, int m, int n) {
        int v = family == 1 ? x + 1 : x;
        int any = costs(family, v, m, n) ^ runs(family, v + n, m, n);
        return family == 3 ? costs(family, x, m, n) - any : any;
    }

    private static void actWraps() {
        check.about("33 acts by numbers");
        BlockStage x = new BlockStage();
        x.block(Kinds.NUMBER, 99);
        x.block(Kinds.NUMBER, 99);
        due("act(1, 0, MAX)", x.act(1, 0, MAX), MIN);
        due("act(1, 1, 2000000000)", x.act(1, 1, 2000000000), 2000000001 * 6);
        due("act(1, 2, 4)", x.act(1, 2, 4), (5 * 6) ^ 104);
    }

    private static void trace() {
        check.about("34 trace");
        int[] kinds = {Kinds.GO, Kinds.IF, Kinds.MINE, Kinds.MET};
        int[][][] dues = {
            {{20, 10}, {11, 20, 10}, {12, 11, 20, 10, 20, 10}},
            {{20, 10}, {30, 11, 20, 10}, {31, 12, 30, 11, 20, 10, 20, 10}},
            {{10}, {40, 11, 10}, {12, 40, 11, 10, 10}},
            {{50, 10}, {40, 11, 50, 10}, {51, 40, 11, 50, 10, 12, 40, 11, 50, 10, 50, 10}}};
        BlockStage x = new BlockStage();
        for (int b = 0; b < 4; b++) {
            x.block(kinds[b], 0);
            for (int act = 0; act < 3; act++) {
                x.act(b, act, 3);
                int[] want = dues[b][act];
                for (int i = 0; i < want.length; i++) due("trace(" + i + ") of act " + act, x.trace(i), want[i]);
                due("trace beyond", x.trace(want.length), NONE);
                due("trace(-1)", x.trace(-1), NONE);
                due("count(9)", x.count(9), want.length);
            }
        }
        x.stage(2, 2);
        x.flag();
        due("trace(0) stays", x.trace(0), 51);
        due("trace(MAX)", x.trace(MAX), NONE);
    }

    private static void taken() {
        check.about("35 taken");
        BlockStage x = new BlockStage();
        for (int kind = 0; kind < 23; kind++) {
            x.block(kind, 0);
            boolean[] is = {true, kind <= 12, kind >= 10 && kind <= 12, kind >= 13, kind >= 19};
            for (int k = 0; k < 5; k++) due("taken(" + kind + ", " + k + ")", x.taken(kind, k), is[k] ? kind : -13);
            due("taken(" + kind + ", 5)", x.taken(kind, 5), BAD);
        }
        due("taken(23, 0)", x.taken(23, 0), -11);
        due("taken(-1, 4)", x.taken(-1, 4), -11);
        due("taken(23, -1)", x.taken(23, -1), BAD);
        due("taken(23, 5)", x.taken(23, 5), BAD);
    }
}
