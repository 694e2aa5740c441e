/** Promises 1 to 18 and 36 to 39: stage, blocks, looking, counts and sheets. */
public final class StageAndBlocksTest {
    private static final int NONE = -1, BAD = -2, STATE = -3, FULL = -4;
    private static final int NO = Integer.MIN_VALUE, MIN = Integer.MIN_VALUE, MAX = Integer.MAX_VALUE;
    private static final Check check = new Check();

    public static void main(String[] args) {
        newObject();
        stage();
        wall();
        things();
        actor();
        lay();
        keepAndUse();
        block();
        join();
        take();
        number();
        cue();
        top();
        look();
        hole();
        of();
        scriptOf();
        whatEndsTheRun();
        count();
        sheet();
        cell();
        copy();
        check.end();
    }

    private static void due(String call, long got, long want) {
        check.due(call, got, want);
    }

    private static void newObject() {
        check.about("1 a new object");
        BlockStage x = new BlockStage();
        for (int y = -1; y <= 4; y++) {
            for (int c = -1; c <= 4; c++) {
                boolean inside = c >= 0 && c < 4 && y >= 0 && y < 4;
                due("look(" + c + ", " + y + ")", x.look(c, y), inside ? 0 : -5);
            }
        }
        int[] counts = {0, 0, 0, 0, -1, 0, 0, 0, 0, 0};
        for (int what = 0; what < counts.length; what++) due("count(" + what + ")", x.count(what), counts[what]);
        due("of(0, 0)", x.of(0, 0), NO);
        due("scriptOf(0, 0)", x.scriptOf(0, 0), NO);
        due("who(0, 0)", x.who(0, 0), NO);
        due("tick(1)", x.tick(1), STATE);
        due("back(0)", x.back(0), STATE);
        due("mark(1)", x.mark(1), STATE);
        due("fails(0)", x.fails(0), STATE);
        due("least(1)", x.least(1), STATE);
        due("hint(0, 0)", x.hint(0, 0), -5);
        due("text(0)", x.text(0), NONE);
        due("trace(0)", x.trace(0), NONE);
        due("use(0)", x.use(0), NONE);
        due("cell(0, 0, 0)", x.cell(0, 0, 0), -11);
        due("NONE", BlockStage.NONE, -1);
        due("BAD", BlockStage.BAD, -2);
        due("STATE", BlockStage.STATE, -3);
        due("FULL", BlockStage.FULL, -4);
        due("NO", BlockStage.NO, Integer.MIN_VALUE);
    }

    private static void stage() {
        check.about("2 stage");
        BlockStage x = new BlockStage();
        x.things(1, 1, 4);
        x.wall(2, 2, 1);
        x.actor(0, 0, 1);
        int[][] bad = {{0, 1}, {1, 0}, {9, 1}, {1, 9}, {-1, 4}, {4, -1}, {MAX, MAX}, {MIN, 3}, {3, MIN}};
        for (int[] b : bad) due("stage(" + b[0] + ", " + b[1] + ")", x.stage(b[0], b[1]), BAD);
        due("look(1, 1) behind refusals", x.look(1, 1), 4);
        due("count(2) behind refusals", x.count(2), 1);
        due("stage(8, 3)", x.stage(8, 3), 1);
        due("count(8)", x.count(8), 0);
        due("count(2)", x.count(2), 0);
        due("look(2, 2)", x.look(2, 2), 0);
        due("look(7, 2)", x.look(7, 2), 0);
        due("look(8, 2)", x.look(8, 2), -5);
        due("look(7, 3)", x.look(7, 3), -5);
        due("stage(1, 1)", x.stage(1, 1), 1);
        due("look(0, 0)", x.look(0, 0), 0);
        due("look(1, 0)", x.look(1, 0), -5);
        due("stage(8, 8)", x.stage(8, 8), 1);
        due("look(7, 7)", x.look(7, 7), 0);
        due("actor(7, 7, 0)", x.actor(7, 7, 0), 0);
    }

    private static void wall() {
        check.about("3 wall");
        BlockStage x = new BlockStage();
        due("wall(3, 3, 1)", x.wall(3, 3, 1), 0);
        due("wall(3, 3, 1) again", x.wall(3, 3, 1), 1);
        due("look(3, 3)", x.look(3, 3), -1);
        due("wall(3, 3, 0)", x.wall(3, 3, 0), 1);
        due("wall(3, 3, 0) again", x.wall(3, 3, 0), 0);
        due("look(3, 3)", x.look(3, 3), 0);
        due("wall(4, 0, 1)", x.wall(4, 0, 1), NONE);
        due("wall(0, 4, 7)", x.wall(0, 4, 7), NONE);
        due("wall(-1, 0, 1)", x.wall(-1, 0, 1), NONE);
        due("wall(0, -1, 1)", x.wall(0, -1, 1), NONE);
        due("wall(0, 0, 2)", x.wall(0, 0, 2), BAD);
        due("wall(0, 0, -1)", x.wall(0, 0, -1), BAD);
        x.actor(1, 2, 0);
        x.things(2, 1, 1);
        due("wall(1, 2, 1) at an actor", x.wall(1, 2, 1), STATE);
        due("wall(1, 2, 0) at an actor", x.wall(1, 2, 0), STATE);
        due("wall(2, 1, 1) at things", x.wall(2, 1, 1), STATE);
        due("wall(2, 1, 0) at things", x.wall(2, 1, 0), STATE);
        due("wall(1, 2, 2) at an actor", x.wall(1, 2, 2), BAD);
        due("look(2, 1)", x.look(2, 1), 1);
        due("wall(2, 2, 1) beside them", x.wall(2, 2, 1), 0);
    }

    private static void things() {
        check.about("4 things");
        BlockStage x = new BlockStage();
        due("things(0, 3, 9)", x.things(0, 3, 9), 0);
        due("things(0, 3, 2)", x.things(0, 3, 2), 9);
        due("look(0, 3)", x.look(0, 3), 2);
        due("look(3, 0)", x.look(3, 0), 0);
        due("things(0, 3, 10)", x.things(0, 3, 10), BAD);
        due("things(0, 3, -1)", x.things(0, 3, -1), BAD);
        due("things(4, 3, 10)", x.things(4, 3, 10), NONE);
        due("things(0, 4, 1)", x.things(0, 4, 1), NONE);
        due("things(-1, 0, 1)", x.things(-1, 0, 1), NONE);
        x.wall(1, 1, 1);
        due("things(1, 1, 0) in a wall", x.things(1, 1, 0), STATE);
        due("things(1, 1, 11) in a wall", x.things(1, 1, 11), BAD);
        due("things(0, 3, 0)", x.things(0, 3, 0), 2);
        due("wall(0, 3, 1) without things", x.wall(0, 3, 1), 0);
    }

    private static void actor() {
        check.about("5 actor");
        BlockStage x = new BlockStage();
        x.wall(0, 0, 1);
        due("actor(0, 0, 0) in a wall", x.actor(0, 0, 0), STATE);
        due("actor(0, 0, 4) in a wall", x.actor(0, 0, 4), BAD);
        due("actor(1, 0, -1)", x.actor(1, 0, -1), BAD);
        due("actor(4, 0, 4)", x.actor(4, 0, 4), NONE);
        due("actor(0, -1, 0)", x.actor(0, -1, 0), NONE);
        due("actor(3, 1, 2)", x.actor(3, 1, 2), 0);
        due("actor(3, 1, 0)", x.actor(3, 1, 0), 1);
        due("actor(2, 2, 3)", x.actor(2, 2, 3), 2);
        due("actor(2, 2, 3) beyond", x.actor(2, 2, 3), FULL);
        due("actor(0, 0, 3) beyond", x.actor(0, 0, 3), STATE);
        int[] first = {3, 1, 2, 0, 0, -1};
        for (int what = 0; what < 6; what++) due("who(0, " + what + ")", x.who(0, what), first[what]);
        due("who(2, 0)", x.who(2, 0), 2);
        due("who(2, 2)", x.who(2, 2), 3);
        due("count(2)", x.count(2), 3);
    }

    private static void lay() {
        check.about("6 lay");
        BlockStage x = new BlockStage();
        x.stage(3, 2);
        x.actor(1, 1, 0);
        int[] cells = {7, -1, 0, 9, 1, 2, -1};
        x.sheet(1, 1, 7);
        for (int i = 0; i < 7; i++) x.cell(1, i, cells[i]);
        due("lay(3, 1, 0)", x.lay(3, 1, 0), BAD);
        due("lay(-1, 1, 0)", x.lay(-1, 1, 0), BAD);
        due("lay(1, 3, 0)", x.lay(1, 3, 0), BAD);
        due("lay(1, -1, 0)", x.lay(1, -1, 0), BAD);
        due("lay(1, 0, 0) of shorts", x.lay(1, 0, 0), -13);
        due("lay(1, 2, 99) of shorts", x.lay(1, 2, 99), -13);
        due("lay(0, 2, 99) of a missing one", x.lay(0, 2, 99), -11);
        due("lay(1, 1, 2)", x.lay(1, 1, 2), -12);
        due("lay(1, 1, -1)", x.lay(1, 1, -1), -12);
        due("lay(1, 1, MAX)", x.lay(1, 1, MAX), -12);
        due("lay(1, 1, MIN)", x.lay(1, 1, MIN), -12);
        due("lay(1, 1, 0) with 7", x.lay(1, 1, 0), 1);
        int[] laid = {7, -1, 0, 9, 1, 2};
        for (int i = 0; i < 6; i++) due("look of cell " + i, x.look(i % 3, i / 3), laid[i]);
        due("lay(1, 1, 1)", x.lay(1, 1, 1), 1);
        int[] later = {-1, 0, 9, 1, 2, -1};
        for (int i = 0; i < 6; i++) due("look of cell " + i + " later", x.look(i % 3, i / 3), later[i]);
        due("who(0, 0)", x.who(0, 0), 1);
        x.cell(1, 4, -1);
        due("lay(1, 1, 0) of a wall at the actor", x.lay(1, 1, 0), STATE);
        x.cell(1, 4, -2);
        due("lay(1, 1, 0) of -2", x.lay(1, 1, 0), STATE);
        x.cell(1, 4, 10);
        due("lay(1, 1, 0) of 10", x.lay(1, 1, 0), STATE);
        due("look(0, 0) behind refusals", x.look(0, 0), -1);
        x.cell(1, 4, 65536 + 3);
        due("lay(1, 1, 0) of a wrapped 3", x.lay(1, 1, 0), 1);
        due("look(1, 1)", x.look(1, 1), 3);
        x.sheet(2, 0, 6);
        x.cell(2, 0, 255);
        due("lay(2, 0, 0)", x.lay(2, 0, 0), 1);
        due("look(0, 0) of byte 255", x.look(0, 0), -1);
        x.sheet(2, 2, 6);
        x.cell(2, 0, 255);
        due("lay(2, 2, 0) of int 255", x.lay(2, 2, 0), STATE);
    }

    private static void keepAndUse() {
        check.about("7, 8 keep, use");
        BlockStage x = new BlockStage();
        x.stage(2, 3);
        x.wall(0, 0, 1);
        x.things(1, 2, 5);
        x.actor(1, 1, 3);
        due("keep()", x.keep(), 0);
        x.stage(5, 5);
        due("keep()", x.keep(), 1);
        x.things(4, 4, 8);
        due("use(2)", x.use(2), NONE);
        due("use(-1)", x.use(-1), NONE);
        due("look(4, 4)", x.look(4, 4), 8);
        due("use(0)", x.use(0), 1);
        due("look(0, 0)", x.look(0, 0), -1);
        due("look(1, 2)", x.look(1, 2), 5);
        due("look(2, 0)", x.look(2, 0), -5);
        due("count(2)", x.count(2), 1);
        due("who(0, 2)", x.who(0, 2), 3);
        x.things(1, 2, 6);
        x.actor(1, 1, 0);
        due("use(0) again", x.use(0), 1);
        due("look(1, 2)", x.look(1, 2), 5);
        due("count(2)", x.count(2), 1);
        due("use(1)", x.use(1), 1);
        due("look(4, 4)", x.look(4, 4), 0);
        due("keep()", x.keep(), 2);
        due("keep()", x.keep(), 3);
        due("keep() beyond", x.keep(), FULL);
        due("count(3)", x.count(3), 4);
        due("use(3)", x.use(3), 1);
        due("use(4)", x.use(4), NONE);
    }

    private static void block() {
        check.about("9 block");
        BlockStage x = new BlockStage();
        int made = 0;
        for (int kind = -1; kind <= 23; kind++) {
            int low = kind == Kinds.NUMBER ? -99 : 0;
            int high = kind == Kinds.NUMBER ? 99 : kind == Kinds.TURN || kind == Kinds.CALL ? 3 : 0;
            boolean is = kind >= 0 && kind <= 22;
            due("block(" + kind + ", " + (low - 1) + ")", x.block(kind, low - 1), BAD);
            due("block(" + kind + ", " + (high + 1) + ")", x.block(kind, high + 1), BAD);
            due("block(" + kind + ", " + high + ")", x.block(kind, high), is ? made : BAD);
            if (is) made++;
        }
        due("block(13, -99)", x.block(13, -99), 23);
        for (int i = 24; i < 30; i++) due("block(0, 0)", x.block(0, 0), i);
        due("block(0, 0) beyond", x.block(0, 0), FULL);
        due("block(0, 1) beyond", x.block(0, 1), BAD);
        due("block(MAX, 0) beyond", x.block(MAX, 0), BAD);
        due("count(0)", x.count(0), 30);
        due("of(13, 1)", x.of(13, 1), 99);
        due("of(23, 1)", x.of(23, 1), -99);
        due("of(22, 0)", x.of(22, 0), 22);
    }

    /** Every kind into every hole of every kind. */
    private static void join() {
        check.about("10 join");
        int[] holes = {1, 1, 1, 1, 9, 9, 1, 1, 9, 25, 11, 11, 15, 0, 0, 24, 0, 8, 24, 0, 24, 8, 0};
        for (int host = 0; host < 23; host++) {
            BlockStage x = new BlockStage();
            due("block of kind " + host, x.block(host, 0), 0);
            for (int kind = 0; kind < 23; kind++) {
                due("block of kind " + kind, x.block(kind, 0), kind + 1);
                for (int hole = -1; hole <= 5; hole++) {
                    boolean has = hole >= 0 && (holes[host] >> hole & 1) == 1;
                    boolean sharp = hole == 3 && (host == 11 || host == 12 || host == 21);
                    boolean fits = hole < 3 ? kind <= 12 : sharp ? kind >= 19 : kind >= 13;
                    String call = "kind " + kind + " into hole " + hole + " of kind " + host;
                    due(call, x.join(0, hole, kind + 1), !has ? NONE : fits ? 1 : BAD);
                    if (!has || !fits) continue;
                    due("again " + call, x.join(0, hole, kind + 1), STATE);
                    due("taken out again", x.take(kind + 1), 1);
                }
            }
        }
        joinOrder();
    }

    private static void joinOrder() {
        BlockStage x = new BlockStage();
        int shell = x.block(Kinds.IF, 0);
        int go = x.block(Kinds.GO, 0);
        int number = x.block(Kinds.NUMBER, 1);
        int second = x.block(Kinds.GO, 0);
        due("join(0, 0, 4)", x.join(shell, 0, 4), NONE);
        due("join(4, 0, 0)", x.join(4, 0, shell), NONE);
        due("join(-1, 0, 0)", x.join(-1, 0, shell), NONE);
        due("join(0, 0, -1)", x.join(shell, 0, -1), NONE);
        due("join(0, 0, 0) itself", x.join(shell, 0, shell), BAD);
        due("join(0, 1, 1)", x.join(shell, 1, go), 1);
        due("join(1, 0, 0) within itself", x.join(go, 0, shell), BAD);
        due("join(1, 0, 3)", x.join(go, 0, second), 1);
        due("join(3, 0, 0) within itself, deeper", x.join(second, 0, shell), BAD);
        due("join(0, 1, 2) hole not empty, does not fit", x.join(shell, 1, number), STATE);
        due("join(0, 2, 2) does not fit", x.join(shell, 2, number), BAD);
        due("join(0, 0, 3) is in one", x.join(shell, 0, second), STATE);
        int script = x.cue(0, 0, 0, 0);
        int top = x.block(Kinds.GO, 0);
        x.top(script, top);
        due("join(0, 0, top)", x.join(shell, 0, top), STATE);
        due("hole(0, 0)", x.hole(shell, 0), NONE);
        due("join(top, 0, 0)", x.join(top, 0, shell), 1);
        due("of(0, 2)", x.of(shell, 2), top);
        int outer = x.block(Kinds.SUM, 0);
        int inner = Kinds.in(x, outer, 4, Kinds.SUM, 0);
        due("join of rounds within itself", x.join(inner, 3, outer), BAD);
    }

    private static void take() {
        check.about("11 take");
        BlockStage x = new BlockStage();
        int script = Kinds.row(x, 0, 0, 0, 0, Kinds.REPEAT, Kinds.GO);
        int inner = Kinds.in(x, 0, Kinds.BODY, Kinds.GO, 0);
        due("take(-1)", x.take(-1), NONE);
        due("take(3)", x.take(3), NONE);
        due("take(1)", x.take(1), 1);
        due("of(1, 2)", x.of(1, 2), -1);
        due("of(1, 3)", x.of(1, 3), -1);
        due("hole(0, 0)", x.hole(0, 0), NONE);
        due("take(1) again", x.take(1), STATE);
        due("take(0)", x.take(0), 1);
        due("take(0) again", x.take(0), STATE);
        due("of(0, 4)", x.of(0, 4), -1);
        due("scriptOf(0, 4)", x.scriptOf(script, 4), -1);
        due("hole(0, 1) stays", x.hole(0, 1), inner);
        due("top(0, 1)", x.top(script, 1), 1);
        due("write(0)", x.write(script), 1);
    }

    private static void number() {
        check.about("12 number");
        BlockStage x = new BlockStage();
        for (int kind = 0; kind < 23; kind++) {
            x.block(kind, 0);
            boolean has = kind == Kinds.TURN || kind == Kinds.CALL || kind == Kinds.NUMBER;
            due("number of kind " + kind, x.number(kind, 0), has ? 0 : BAD);
        }
        due("number(1, 3)", x.number(1, 3), 0);
        due("number(1, 4)", x.number(1, 4), BAD);
        due("number(1, -1)", x.number(1, -1), BAD);
        due("number(1, 2)", x.number(1, 2), 3);
        due("number(6, 4)", x.number(6, 4), BAD);
        due("number(6, 3)", x.number(6, 3), 0);
        due("number(13, 99)", x.number(13, 99), 0);
        due("number(13, 100)", x.number(13, 100), BAD);
        due("number(13, -100)", x.number(13, -100), BAD);
        due("number(13, -99)", x.number(13, -99), 99);
        due("of(13, 1)", x.of(13, 1), -99);
        due("number(23, 0)", x.number(23, 0), NONE);
        due("number(-1, 500)", x.number(-1, 500), NONE);
    }

    private static void cue() {
        check.about("13 cue");
        BlockStage x = new BlockStage();
        due("cue(-1, 9, 9, 9)", x.cue(-1, 9, 9, 9), NONE);
        due("cue(3, 0, 0, 0)", x.cue(3, 0, 0, 0), NONE);
        due("cue(0, -1, 0, 0)", x.cue(0, -1, 0, 0), BAD);
        due("cue(0, 4, 0, 0)", x.cue(0, 4, 0, 0), BAD);
        due("cue(0, 0, 1, 0)", x.cue(0, 0, 1, 0), BAD);
        due("cue(0, 1, -1, 0)", x.cue(0, 1, -1, 0), BAD);
        due("cue(0, 1, 4, 0)", x.cue(0, 1, 4, 0), BAD);
        due("cue(0, 2, 0, 0)", x.cue(0, 2, 0, 0), BAD);
        due("cue(0, 2, 10, 0)", x.cue(0, 2, 10, 0), BAD);
        due("cue(0, 3, 1, 0)", x.cue(0, 3, 1, 0), BAD);
        due("cue(0, 0, 0, 2)", x.cue(0, 0, 0, 2), BAD);
        due("cue(0, 0, 0, -1)", x.cue(0, 0, 0, -1), BAD);
        int[][] good = {{0, 0, 0, 0}, {1, 1, 0, 1}, {2, 1, 3, 0}, {2, 2, 1, 0}, {0, 2, 9, 1}, {1, 3, 0, 1}};
        for (int s = 0; s < good.length; s++) {
            int[] g = good[s];
            due("cue " + s, x.cue(g[0], g[1], g[2], g[3]), s);
            for (int what = 0; what < 4; what++) due("scriptOf(" + s + ", " + what + ")", x.scriptOf(s, what), g[what]);
            due("scriptOf(" + s + ", 4)", x.scriptOf(s, 4), -1);
        }
        due("cue(0, 0, 0, 0) beyond", x.cue(0, 0, 0, 0), FULL);
        due("cue(0, 0, 0, 3) beyond", x.cue(0, 0, 0, 3), BAD);
        due("count(1)", x.count(1), 6);
    }

    private static void top() {
        check.about("14 top");
        BlockStage x = new BlockStage();
        int go = x.block(Kinds.GO, 0);
        int number = x.block(Kinds.NUMBER, 0);
        int shell = x.block(Kinds.IF, 0);
        int inner = Kinds.in(x, shell, Kinds.BODY, Kinds.GO, 0);
        due("top(0, 0) without scripts", x.top(0, go), NONE);
        x.cue(0, 0, 0, 0);
        x.cue(0, 0, 0, 0);
        due("top(0, 4)", x.top(0, 4), NONE);
        due("top(-1, 0)", x.top(-1, go), NONE);
        due("top(0, -1)", x.top(0, -1), NONE);
        due("top(0, number)", x.top(0, number), BAD);
        due("top(0, inner)", x.top(0, inner), STATE);
        due("top(0, 0)", x.top(0, go), 1);
        due("top(0, shell) has one", x.top(0, shell), STATE);
        due("top(0, number) has one", x.top(0, number), STATE);
        due("top(1, 0) is a top", x.top(1, go), STATE);
        due("top(1, shell)", x.top(1, shell), 1);
        due("scriptOf(1, 4)", x.scriptOf(1, 4), shell);
        due("of(shell, 4)", x.of(shell, 4), 1);
        due("of(go, 4)", x.of(go, 4), 0);
    }

    private static void look() {
        check.about("15 look");
        BlockStage x = new BlockStage();
        x.stage(2, 1);
        x.things(0, 0, 3);
        x.wall(1, 0, 1);
        x.actor(0, 0, 0);
        Kinds.row(x, 0, 0, 0, 0, Kinds.TAKE);
        x.flag();
        due("look(0, 0) at 0", x.look(0, 0), 3);
        x.tick(1);
        due("look(0, 0) at 1", x.look(0, 0), 2);
        due("count(8) at 1", x.count(8), 2);
        due("look(1, 0)", x.look(1, 0), -1);
        due("look(2, 0)", x.look(2, 0), -5);
        due("look(0, 1)", x.look(0, 1), -5);
        due("look(MIN, MAX)", x.look(MIN, MAX), -5);
        x.back(1);
        due("look(0, 0) back", x.look(0, 0), 3);
        x.tick(1);
        x.block(0, 0);
        due("look(0, 0) without the run", x.look(0, 0), 3);
    }

    private static void hole() {
        check.about("16 hole");
        BlockStage x = new BlockStage();
        x.block(Kinds.REPEAT, 0);
        Kinds.in(x, 0, Kinds.BODY, Kinds.GO, 0);
        int[] dues = {-1, 1, -5, -1, -5};
        for (int h = 0; h < 5; h++) due("hole(0, " + h + ")", x.hole(0, h), dues[h]);
        due("hole(0, 5)", x.hole(0, 5), -5);
        due("hole(0, -1)", x.hole(0, -1), -5);
        due("hole(2, 0)", x.hole(2, 0), -5);
        due("hole(-1, 0)", x.hole(-1, 0), -5);
    }

    private static void of() {
        check.about("17 of");
        BlockStage x = new BlockStage();
        int script = Kinds.row(x, 0, 0, 0, 0, Kinds.WAIT, Kinds.LAY);
        Kinds.in(x, 1, Kinds.SECOND, Kinds.NUMBER, -7);
        int[][] dues = {{7, 0, -1, -1, script}, {9, 0, 0, 0, -1}, {13, -7, 1, 4, -1}};
        for (int b = 0; b < 3; b++) {
            for (int what = 0; what < 5; what++) due("of(" + b + ", " + what + ")", x.of(b, what), dues[b][what]);
            due("of(" + b + ", 5)", x.of(b, 5), NO);
            due("of(" + b + ", -1)", x.of(b, -1), NO);
        }
        due("of(3, 0)", x.of(3, 0), NO);
        due("of(-1, 0)", x.of(-1, 0), NO);
    }

    private static void scriptOf() {
        check.about("18 scriptOf");
        BlockStage x = new BlockStage();
        x.actor(0, 0, 1);
        x.cue(0, Kinds.EVERY, 2, 1);
        int say = x.block(Kinds.SAY, 0);
        Kinds.in(x, say, Kinds.FIRST, Kinds.PART, 0);
        x.top(0, say);
        Kinds.row(x, 0, 0, 0, 0, Kinds.WAIT, Kinds.WAIT);
        due("scriptOf(0, 5) without a run", x.scriptOf(0, 5), 0);
        due("scriptOf(0, 6) without a run", x.scriptOf(0, 6), -1);
        due("scriptOf(0, 7) without a run", x.scriptOf(0, 7), 0);
        x.flag();
        due("scriptOf(1, 5) at 0", x.scriptOf(1, 5), 0);
        x.tick(1);
        due("scriptOf(1, 5) at 1", x.scriptOf(1, 5), 1);
        due("scriptOf(1, 6) at 1", x.scriptOf(1, 6), 3);
        due("scriptOf(0, 5) at 1", x.scriptOf(0, 5), 0);
        x.tick(1);
        due("scriptOf(1, 5) at 2", x.scriptOf(1, 5), 0);
        due("scriptOf(1, 6) at 2", x.scriptOf(1, 6), -1);
        due("scriptOf(0, 5) at 2", x.scriptOf(0, 5), 2);
        due("scriptOf(0, 6) at 2", x.scriptOf(0, 6), 0);
        due("scriptOf(0, 7) at 2", x.scriptOf(0, 7), -15);
        due("scriptOf(0, 2)", x.scriptOf(0, 2), 2);
        due("scriptOf(0, 3)", x.scriptOf(0, 3), 1);
        due("scriptOf(0, 8)", x.scriptOf(0, 8), NO);
        due("scriptOf(0, -1)", x.scriptOf(0, -1), NO);
        due("scriptOf(2, 0)", x.scriptOf(2, 0), NO);
        due("scriptOf(-1, 5)", x.scriptOf(-1, 5), NO);
        x.take(1);
        due("scriptOf(0, 5) behind the run", x.scriptOf(0, 5), 0);
        due("scriptOf(0, 6) behind the run", x.scriptOf(0, 6), -1);
        due("scriptOf(0, 7) behind the run", x.scriptOf(0, 7), 0);
    }

    /** Each call of 'the stage' and 'blocks' ends the run, but keep; none that is refused does. */
    private static void whatEndsTheRun() {
        check.about("what ends the run");
        for (int call = 0; call < 25; call++) {
            BlockStage x = new BlockStage();
            x.actor(0, 0, 0);
            x.things(1, 1, 1);
            x.keep();
            x.block(Kinds.TURN, 0);
            x.block(Kinds.GO, 0);
            x.cue(0, 0, 0, 0);
            x.top(0, 0);
            x.cue(1, 0, 0, 0);
            x.sheet(0, 0, 16);
            x.sheet(1, 0, 15);
            x.flag();
            x.tick(2);
            boolean ends = endingCall(x, call);
            due("count(4) behind call " + call, x.count(4), ends ? -1 : 2);
        }
    }

    private static boolean endingCall(BlockStage x, int call) {
        switch (call) {
            case 0: x.stage(4, 4); return true;
            case 1: x.wall(3, 3, 0); return true;
            case 2: x.things(1, 1, 1); return true;
            case 3: x.actor(0, 0, 0); return true;
            case 4: x.lay(0, 0, 0); return true;
            case 5: x.use(0); return true;
            case 6: x.block(0, 0); return true;
            case 7: x.join(0, 0, 1); return true;
            case 8: x.take(0); return true;
            case 9: x.number(0, 0); return true;
            case 10: x.cue(0, 0, 0, 0); return true;
            case 11: x.top(1, 1); return true;
            case 12: x.keep(); return false;
            case 13: x.stage(0, 4); return false;
            case 14: x.wall(0, 0, 0); return false;
            case 15: x.things(1, 1, 10); return false;
            case 16: x.actor(9, 0, 0); return false;
            case 17: x.lay(1, 0, 0); x.lay(2, 0, 0); x.lay(0, 1, 0); return false;
            case 18: x.use(1); return false;
            case 19: x.block(0, 1); x.number(1, 0); x.cue(3, 0, 0, 0); return false;
            case 20: x.join(0, 3, 1); x.take(1); x.top(0, 1); x.top(2, 1); return false;
            case 21: x.sheet(2, 0, 3); x.cell(0, 0, 5); x.copy(0, 0, 1, 0, 2); return false;
            case 22: Kinds.wish(x, "end x0=0"); x.mark(9); x.least(9); return false;
            case 23: x.write(0); x.act(0, 2, 3); x.taken(0, 0); return false;
            default: x.look(0, 0); x.count(3); x.who(0, 0); x.said(0, 0); return false;
        }
    }

    private static void count() {
        check.about("36 count");
        BlockStage x = new BlockStage();
        x.actor(0, 0, 0);
        x.actor(0, 0, 0);
        x.things(2, 2, 9);
        x.things(0, 0, 3);
        x.wall(3, 3, 1);
        x.keep();
        x.feed(1, 3);
        Kinds.row(x, 1, 0, 0, 0, Kinds.SAY, Kinds.TAKE, Kinds.SAY);
        int[] before = {3, 1, 2, 1, -1, 0, 3, 0, 12, 0};
        for (int what = 0; what < 10; what++) due("count(" + what + ")", x.count(what), before[what]);
        x.flag();
        due("count(4) at 0", x.count(4), 0);
        x.tick(3);
        x.act(0, 0, 0);
        x.wish();
        Kinds.wish(x, "end s=2 and once g<12");
        int[] behind = {3, 1, 2, 1, 3, 2, 0, 2, 11, 2};
        for (int what = 0; what < 10; what++) due("count(" + what + ") in the run", x.count(what), behind[what]);
        due("count(10)", x.count(10), BAD);
        due("count(-1)", x.count(-1), BAD);
        x.stage(2, 2);
        int[] last = {3, 1, 0, 1, -1, 0, 0, 2, 0, 2};
        for (int what = 0; what < 10; what++) due("count(" + what + ") later", x.count(what), last[what]);
    }

    private static void sheet() {
        check.about("37 sheet");
        BlockStage x = new BlockStage();
        due("sheet(-1, 0, 0)", x.sheet(-1, 0, 0), BAD);
        due("sheet(3, -1, 0)", x.sheet(3, -1, 0), BAD);
        due("sheet(0, -2, 0)", x.sheet(0, -2, 0), BAD);
        due("sheet(0, 3, -1)", x.sheet(0, 3, -1), BAD);
        due("sheet(0, 0, 71)", x.sheet(0, 0, 71), BAD);
        due("sheet(0, 0, MAX)", x.sheet(0, 0, MAX), BAD);
        due("sheet(0, 0, -1)", x.sheet(0, 0, -1), -14);
        due("sheet(0, 0, MIN)", x.sheet(0, 0, MIN), -14);
        due("cell(0, 0, 0) behind refusals", x.cell(0, 0, 0), -11);
        due("sheet(0, 2, 70)", x.sheet(0, 2, 70), 1);
        due("cell(0, 69, 3)", x.cell(0, 69, 3), 1);
        due("cell(0, 70, 3)", x.cell(0, 70, 3), -12);
        due("sheet(0, 0, -1) of one that is", x.sheet(0, 0, -1), -14);
        due("cell(0, 69, 3) stays", x.cell(0, 69, 3), 1);
        due("sheet(0, -1, MIN)", x.sheet(0, -1, MIN), 1);
        due("cell(0, 0, 0)", x.cell(0, 0, 0), -11);
        due("sheet(0, -1, 999)", x.sheet(0, -1, 999), 1);
        due("sheet(2, 1, 0)", x.sheet(2, 1, 0), 1);
        due("cell(2, 0, 0) of none", x.cell(2, 0, 0), -12);
        x.stage(1, 1);
        x.sheet(1, 2, 1);
        x.cell(1, 0, 7);
        x.sheet(1, 2, 1);
        due("lay(1, 2, 0)", x.lay(1, 2, 0), 1);
        due("look(0, 0) of a row all 0", x.look(0, 0), 0);
    }

    /** Lays the only cell of a stage from a sheet: what it becomes, or the refusal. */
    private static int laid(BlockStage x, int sheet, int sort, int i) {
        int answer = x.lay(sheet, sort, i);
        return answer == 1 ? x.look(0, 0) : answer;
    }

    private static void cell() {
        check.about("38 cell");
        BlockStage x = new BlockStage();
        x.stage(1, 1);
        for (int sort = 0; sort < 3; sort++) x.sheet(sort, sort, 3);
        due("cell(-1, 0, 0)", x.cell(-1, 0, 0), BAD);
        due("cell(3, 0, 0)", x.cell(3, 0, 0), BAD);
        due("cell(0, -1, 0)", x.cell(0, -1, 0), -12);
        due("cell(0, 3, 0)", x.cell(0, 3, 0), -12);
        due("cell(0, MIN, 0)", x.cell(0, MIN, 0), -12);
        int[] values = {5, 256 + 5, 65536 + 5, -1, 255, 65535, 128, 0x7fffff04};
        int[][] dues = {
            {5, 5, 5, -1, -1, -1, STATE, 4},
            {5, STATE, 5, -1, STATE, -1, STATE, STATE},
            {5, STATE, STATE, -1, STATE, STATE, STATE, STATE}};
        for (int i = 0; i < values.length; i++) {
            for (int sort = 0; sort < 3; sort++) {
                due("cell(" + sort + ", 2, " + values[i] + ")", x.cell(sort, 2, values[i]), 1);
                due("of sort " + sort + " laid " + values[i], laid(x, sort, sort, 2), dues[sort][i]);
            }
        }
        due("item 1 beside it", laid(x, 0, 0, 1), 0);
    }

    private static void copy() {
        check.about("39 copy");
        BlockStage x = new BlockStage();
        x.stage(1, 1);
        x.sheet(0, 0, 5);
        x.sheet(1, 0, 3);
        for (int i = 0; i < 5; i++) x.cell(0, i, i + 1);
        due("copy(3, 0, 0, 0, 0)", x.copy(3, 0, 0, 0, 0), BAD);
        due("copy(0, 0, -1, 0, 0)", x.copy(0, 0, -1, 0, 0), BAD);
        due("copy(0, 0, 2, 0, 1)", x.copy(0, 0, 2, 0, 1), -11);
        due("copy(2, 0, 0, -1, 1)", x.copy(2, 0, 0, -1, 1), -11);
        x.sheet(2, 1, 5);
        due("copy(0, -1, 2, 0, 1)", x.copy(0, -1, 2, 0, 1), -13);
        due("copy(0, -1, 1, 0, 1)", x.copy(0, -1, 1, 0, 1), -12);
        due("copy(0, 0, 1, -1, 1)", x.copy(0, 0, 1, -1, 1), -12);
        due("copy(0, 0, 1, 0, -1)", x.copy(0, 0, 1, 0, -1), -12);
        due("copy(0, 3, 1, 0, 3)", x.copy(0, 3, 1, 0, 3), -12);
        due("copy(0, 0, 1, 1, 3)", x.copy(0, 0, 1, 1, 3), -12);
        due("copy(0, MAX, 1, 0, 1)", x.copy(0, MAX, 1, 0, 1), -12);
        due("copy(0, 1, 1, 0, MAX)", x.copy(0, 1, 1, 0, MAX), -12);
        due("copy(0, 5, 1, 3, 0)", x.copy(0, 5, 1, 3, 0), 0);
        due("copy(0, 6, 1, 3, 0)", x.copy(0, 6, 1, 3, 0), -12);
        due("item 0 stays", laid(x, 1, 0, 0), 0);
        due("copy(0, 2, 1, 0, 3)", x.copy(0, 2, 1, 0, 3), 3);
        for (int i = 0; i < 3; i++) due("item " + i, laid(x, 1, 0, i), i + 3);
        due("copy(0, 0, 0, 1, 4) of itself", x.copy(0, 0, 0, 1, 4), 4);
        int[] up = {1, 1, 2, 3, 4};
        for (int i = 0; i < 5; i++) due("item " + i + " moved up", laid(x, 0, 0, i), up[i]);
        due("copy(0, 2, 0, 0, 3) of itself", x.copy(0, 2, 0, 0, 3), 3);
        int[] down = {2, 3, 4, 3, 4};
        for (int i = 0; i < 5; i++) due("item " + i + " moved down", laid(x, 0, 0, i), down[i]);
    }
}
