/** Promises 19 to 24, and what Terms 2 and 3 say of rounds, steps, waking and refusals. */
public final class RunsTest {
    private static final int BAD = -2, STATE = -3, FULL = -4;
    private static final int NO = Integer.MIN_VALUE, MIN = Integer.MIN_VALUE, MAX = Integer.MAX_VALUE;
    private static final Check check = new Check();

    public static void main(String[] args) {
        flag();
        tick();
        back();
        who();
        item();
        said();
        goAndTurn();
        takeAndPut();
        rounds();
        wrappingRounds();
        rowsOfNumbers();
        refusals();
        refusalOrder();
        repeat();
        repeatWithoutBody();
        repeatRefusedOnlyFromAbove();
        whileLoop();
        ifShell();
        onThroughIfs();
        caps();
        again();
        calls();
        meetings();
        wakesAheadOfSteps();
        check.end();
    }

    private static void due(String call, long got, long want) {
        check.due(call, got, want);
    }

    private static void ticks(BlockStage x, int n) {
        due("tick(" + n + ")", x.tick(n), x.count(4) < 0 ? STATE : x.count(4));
    }

    private static void flag() {
        check.about("19 flag");
        BlockStage x = new BlockStage();
        due("flag() without anything", x.flag(), 1);
        due("count(4)", x.count(4), 0);
        due("tick(3)", x.tick(3), 3);
        due("flag() anew", x.flag(), 1);
        due("count(4)", x.count(4), 0);
        x.actor(2, 2, 0);
        Kinds.row(x, 0, 0, 0, 0, Kinds.GO, Kinds.SAY, Kinds.GO, Kinds.GO, Kinds.GO);
        x.flag();
        due("tick(5)", x.tick(5), 5);
        due("who(0, 1)", x.who(0, 1), 0);
        due("who(0, 4)", x.who(0, 4), 2);
        due("count(5)", x.count(5), 1);
        due("flag()", x.flag(), 1);
        due("who(0, 1) anew", x.who(0, 1), 2);
        due("who(0, 4) anew", x.who(0, 4), 0);
        due("count(5) anew", x.count(5), 0);
        due("scriptOf(0, 5) anew", x.scriptOf(0, 5), 0);
        due("tick(1)", x.tick(1), 1);
        due("who(0, 1)", x.who(0, 1), 1);
    }

    private static void tick() {
        check.about("20 tick");
        BlockStage x = new BlockStage();
        due("tick(0) without a run", x.tick(0), STATE);
        x.flag();
        due("tick(0)", x.tick(0), BAD);
        due("tick(-1)", x.tick(-1), BAD);
        due("tick(101)", x.tick(101), BAD);
        due("tick(MAX)", x.tick(MAX), BAD);
        due("tick(MIN)", x.tick(MIN), BAD);
        due("tick(100)", x.tick(100), 100);
        due("tick(100)", x.tick(100), 200);
        due("tick(1)", x.tick(1), 201);
        due("tick(100)", x.tick(100), FULL);
        due("tick(101)", x.tick(101), BAD);
        due("tick(99)", x.tick(99), 300);
        due("tick(1)", x.tick(1), FULL);
        due("count(4)", x.count(4), 300);
        due("back(1)", x.back(1), 299);
        due("tick(2)", x.tick(2), FULL);
        due("tick(1)", x.tick(1), 300);
    }

    private static void back() {
        check.about("21 back");
        int[][] rows = new int[41][];
        BlockStage x = null;
        // An object is used for 512 calls: the rows are seen on three.
        for (int t = 0; t <= 40; t++) {
            if (t % 16 == 0) {
                x = repeating();
                if (t > 0) x.tick(t);
            }
            rows[t] = seen(x);
            x.tick(1);
        }
        x = new BlockStage();
        due("back(-1) without a run", x.back(-1), STATE);
        x = repeating();
        due("tick(40)", x.tick(40), 40);
        due("back(-1)", x.back(-1), BAD);
        due("back(41)", x.back(41), BAD);
        due("back(MAX)", x.back(MAX), BAD);
        due("back(0)", x.back(0), 40);
        sameRow("behind back(0)", seen(x), rows[40]);
        due("back(13)", x.back(13), 27);
        sameRow("behind back(13)", seen(x), rows[27]);
        due("back(28)", x.back(28), BAD);
        due("back(20)", x.back(20), 7);
        sameRow("behind back(20)", seen(x), rows[7]);
        due("tick(5)", x.tick(5), 12);
        sameRow("behind tick(5)", seen(x), rows[12]);
        due("back(12)", x.back(12), 0);
        sameRow("behind back(12)", seen(x), rows[0]);
        due("tick(40)", x.tick(40), 40);
        sameRow("behind tick(40)", seen(x), rows[40]);
        x.stage(2, 2);
        due("back(0) behind stage()", x.back(0), STATE);
    }

    private static BlockStage repeating() {
        BlockStage x = new BlockStage();
        x.stage(8, 1);
        x.actor(0, 0, 1);
        x.things(3, 0, 2);
        x.block(Kinds.REPEAT, 0);
        Kinds.in(x, 0, Kinds.FIRST, Kinds.NUMBER, 9);
        Kinds.in(x, 0, Kinds.BODY, Kinds.GO, 0);
        Kinds.in(x, 2, Kinds.NEXT, Kinds.SAY, 0);
        Kinds.in(x, 3, Kinds.NEXT, Kinds.TAKE, 0);
        x.cue(0, 0, 0, 0);
        x.top(0, 0);
        x.flag();
        return x;
    }

    private static int[] seen(BlockStage x) {
        int[] row = new int[16];
        for (int i = 0; i < 6; i++) row[i] = x.who(0, i);
        row[6] = x.count(4);
        row[7] = x.count(5);
        row[8] = x.count(8);
        row[9] = x.look(3, 0);
        for (int i = 5; i < 8; i++) row[i + 5] = x.scriptOf(0, i);
        row[13] = x.said(0, 2);
        row[14] = x.said(3, 1);
        row[15] = x.said(8, 0);
        return row;
    }

    private static void sameRow(String about, int[] got, int[] want) {
        for (int i = 0; i < want.length; i++) due("number " + i + " seen " + about, got[i], want[i]);
    }

    private static void who() {
        check.about("22 who");
        BlockStage x = new BlockStage();
        x.stage(3, 5);
        due("who(0, 0) without actors", x.who(0, 0), NO);
        x.actor(2, 4, 3);
        x.actor(1, 3, 2);
        int[] dues = {1, 3, 2, 0, 0, -1};
        for (int what = 0; what < 6; what++) due("who(1, " + what + ")", x.who(1, what), dues[what]);
        due("who(1, 6)", x.who(1, 6), NO);
        due("who(1, -1)", x.who(1, -1), NO);
        due("who(2, 0)", x.who(2, 0), NO);
        due("who(-1, 0)", x.who(-1, 0), NO);
        due("who(MAX, MAX)", x.who(MAX, MAX), NO);
        x.cue(1, 0, 0, 0);
        x.block(Kinds.GO, 0);
        x.top(0, 0);
        Kinds.in(x, 0, Kinds.NEXT, Kinds.GO, 0);
        Kinds.in(x, 1, Kinds.NEXT, Kinds.SET, 0);
        Kinds.in(x, 2, Kinds.FIRST, Kinds.NUMBER, -8);
        Kinds.in(x, 2, Kinds.NEXT, Kinds.MAKE, 0);
        Kinds.in(x, 4, Kinds.NEXT, Kinds.TURN, 3);
        x.flag();
        due("tick(5)", x.tick(5), 5);
        int[] behind = {1, 4, 1, -8, 1, 0};
        for (int what = 0; what < 6; what++) due("who(1, " + what + ") at 5", x.who(1, what), behind[what]);
        due("who(0, 0) at 5", x.who(0, 0), 2);
        x.cue(0, 0, 0, 0);
        for (int what = 0; what < 6; what++) due("who(1, " + what + ") behind", x.who(1, what), dues[what]);
    }

    private static void item() {
        check.about("23 item");
        BlockStage x = new BlockStage();
        due("item(0, 0) without actors", x.item(0, 0), NO);
        x.actor(0, 0, 0);
        due("item(0, 0) of a missing row", x.item(0, 0), NO);
        x.block(Kinds.MAKE, 0);
        Kinds.in(x, 0, Kinds.FIRST, Kinds.NUMBER, 2);
        Kinds.in(x, 0, Kinds.NEXT, Kinds.LAY, 0);
        Kinds.in(x, 2, Kinds.FIRST, Kinds.NUMBER, 1);
        Kinds.in(x, 2, Kinds.SECOND, Kinds.NUMBER, -55);
        x.cue(0, 0, 0, 0);
        x.top(0, 0);
        x.flag();
        x.tick(2);
        due("item(0, 0)", x.item(0, 0), 0);
        due("item(0, 1)", x.item(0, 1), -55);
        due("item(0, 2)", x.item(0, 2), NO);
        due("item(0, -1)", x.item(0, -1), NO);
        due("item(1, 0)", x.item(1, 0), NO);
        due("item(-1, 0)", x.item(-1, 0), NO);
        x.back(1);
        due("item(0, 1) back", x.item(0, 1), 0);
        x.keep();
        x.stage(4, 4);
        due("item(0, 1) without the run", x.item(0, 1), NO);
    }

    private static void said() {
        check.about("24 said");
        BlockStage x = new BlockStage();
        x.actor(0, 0, 0);
        x.actor(0, 0, 0);
        x.things(0, 0, 9);
        for (int a = 0; a < 2; a++) {
            int say = x.block(Kinds.SAY, 0);
            Kinds.in(x, say, Kinds.FIRST, a == 0 ? Kinds.NUMBER : Kinds.HERE, a == 0 ? -3 : 0);
            x.cue(a, Kinds.EVERY, 1, 0);
            x.top(a, say);
        }
        x.flag();
        due("said(0, 0) at 0", x.said(0, 0), NO);
        x.tick(30);
        for (int i = 0; i < 50; i++) {
            due("said(" + i + ", 0)", x.said(i, 0), i % 2);
            due("said(" + i + ", 1)", x.said(i, 1), i % 2 == 0 ? -3 : 9);
            due("said(" + i + ", 2)", x.said(i, 2), i / 2 + 1);
        }
        due("count(5)", x.count(5), 60);
        due("said(50, 0)", x.said(50, 0), NO);
        due("said(49, 3)", x.said(49, 3), NO);
        due("said(0, -1)", x.said(0, -1), NO);
        due("said(-1, 0)", x.said(-1, 0), NO);
        x.back(6);
        due("count(5) back", x.count(5), 48);
        due("said(47, 2) back", x.said(47, 2), 24);
        due("said(48, 2) back", x.said(48, 2), NO);
        x.use(9);
        due("said(0, 2) behind a refusal", x.said(0, 2), 1);
        x.things(3, 3, 0);
        due("said(0, 0) without the run", x.said(0, 0), NO);
        due("count(5) without the run", x.count(5), 0);
    }

    private static void goAndTurn() {
        check.about("GO, TURN");
        int[][] ahead = {{1, 0}, {2, 1}, {1, 2}, {0, 1}};
        for (int heading = 0; heading < 4; heading++) {
            for (int n = 0; n < 4; n++) {
                BlockStage x = new BlockStage();
                x.stage(3, 3);
                x.actor(1, 1, heading);
                x.block(Kinds.TURN, n);
                Kinds.in(x, 0, Kinds.NEXT, Kinds.GO, 0);
                Kinds.in(x, 1, Kinds.NEXT, Kinds.GO, 0);
                x.cue(0, 0, 0, 0);
                x.top(0, 0);
                x.flag();
                x.tick(1);
                int now = (heading + n) % 4;
                due("who(0, 2)", x.who(0, 2), now);
                x.tick(1);
                due("who(0, 0)", x.who(0, 0), ahead[now][0]);
                due("who(0, 1)", x.who(0, 1), ahead[now][1]);
                due("who(0, 4)", x.who(0, 4), 0);
                x.tick(1);
                due("who(0, 0) at the end", x.who(0, 0), ahead[now][0]);
                due("who(0, 1) at the end", x.who(0, 1), ahead[now][1]);
                due("who(0, 4) at the end", x.who(0, 4), 1);
            }
        }
        BlockStage x = new BlockStage();
        x.actor(0, 0, 1);
        x.wall(1, 0, 1);
        Kinds.row(x, 0, 0, 0, 0, Kinds.GO, Kinds.GO);
        x.flag();
        x.tick(2);
        due("who(0, 0) at a wall", x.who(0, 0), 0);
        due("who(0, 4) at a wall", x.who(0, 4), 2);
    }

    private static void takeAndPut() {
        check.about("TAKE, PUT");
        BlockStage x = new BlockStage();
        x.actor(0, 0, 0);
        x.things(0, 0, 1);
        Kinds.row(x, 0, 0, 0, 0, Kinds.PUT, Kinds.TAKE, Kinds.TAKE, Kinds.PUT, Kinds.PUT);
        x.flag();
        int[] values = {0, 0, 1, 1, 0, 0};
        for (int t = 0; t < 6; t++) {
            due("who(0, 3) at " + t, x.who(0, 3), values[t]);
            due("look(0, 0) at " + t, x.look(0, 0), 1 - values[t]);
            x.tick(1);
        }
        x = new BlockStage();
        x.actor(0, 0, 0);
        x.things(0, 0, 8);
        int set = x.block(Kinds.SET, 0);
        Kinds.in(x, set, Kinds.FIRST, Kinds.NUMBER, 5);
        int put = Kinds.in(x, set, Kinds.NEXT, Kinds.PUT, 0);
        Kinds.in(x, put, Kinds.NEXT, Kinds.PUT, 0);
        x.cue(0, 0, 0, 0);
        x.top(0, set);
        x.flag();
        x.tick(3);
        due("look(0, 0) full", x.look(0, 0), 9);
        due("who(0, 3) full", x.who(0, 3), 4);
    }

    /** The worth of a round that a SAY tells, with the two numbers, if it has holes for them. */
    private static int worth(int kind, int first, int second) {
        BlockStage x = new BlockStage();
        x.stage(2, 2);
        x.actor(0, 0, 1);
        x.things(0, 0, 4);
        x.block(Kinds.SAY, 0);
        Kinds.in(x, 0, Kinds.FIRST, kind, kind == Kinds.NUMBER ? first : 0);
        if (x.hole(1, Kinds.SECOND) != -5) {
            Kinds.in(x, 1, Kinds.FIRST, Kinds.NUMBER, first);
            Kinds.in(x, 1, Kinds.SECOND, Kinds.NUMBER, second);
        }
        x.cue(0, 0, 0, 0);
        x.top(0, 0);
        x.flag();
        x.tick(1);
        return x.scriptOf(0, 5) == 2 ? x.scriptOf(0, 7) : x.said(0, 1);
    }

    private static void rounds() {
        check.about("rounds");
        due("NUMBER -99", worth(Kinds.NUMBER, -99, 0), -99);
        due("MINE", worth(Kinds.MINE, 0, 0), 0);
        due("SUM", worth(Kinds.SUM, 40, -2), 38);
        due("HERE", worth(Kinds.HERE, 0, 0), 4);
        due("PART 7 by 2", worth(Kinds.PART, 7, 2), 3);
        due("PART -7 by 2", worth(Kinds.PART, -7, 2), -3);
        due("PART 7 by -2", worth(Kinds.PART, 7, -2), -3);
        due("PART -7 by -2", worth(Kinds.PART, -7, -2), 3);
        due("PART 1 by 2", worth(Kinds.PART, 1, 2), 0);
        due("PART 1 by 0", worth(Kinds.PART, 1, 0), -15);
        due("WALLED", worth(Kinds.WALLED, 0, 0), 0);
        due("LESS 1, 2", worth(Kinds.LESS, 1, 2), 1);
        due("LESS 2, 2", worth(Kinds.LESS, 2, 2), 0);
        due("LESS 3, 2", worth(Kinds.LESS, 3, 2), 0);
        due("LESS -3, -2", worth(Kinds.LESS, -3, -2), 1);
        due("NOT of an empty hole", worth(Kinds.NOT, 0, 0), 1);
        due("MET alone", worth(Kinds.MET, 0, 0), 0);
        due("ITEM of a missing row", worth(Kinds.ITEM, 0, 0), -11);
    }

    /** Sums come beyond an int by doubling: 2 to the 31st wraps, and PART of the least by -1 too. */
    private static void wrappingRounds() {
        check.about("wrapping rounds");
        BlockStage x = new BlockStage();
        x.actor(0, 0, 1);
        x.block(Kinds.REPEAT, 0);
        Kinds.in(x, 0, Kinds.FIRST, Kinds.NUMBER, 31);
        int set = Kinds.in(x, 0, Kinds.BODY, Kinds.SET, 0);
        int sum = Kinds.in(x, set, Kinds.FIRST, Kinds.SUM, 0);
        Kinds.in(x, sum, 3, Kinds.MINE, 0);
        Kinds.in(x, sum, 4, Kinds.MINE, 0);
        int one = x.block(Kinds.SET, 0);
        Kinds.in(x, one, Kinds.FIRST, Kinds.NUMBER, 1);
        x.join(one, Kinds.NEXT, 0);
        int part = Kinds.in(x, 0, Kinds.NEXT, Kinds.SAY, 0);
        int by = Kinds.in(x, part, Kinds.FIRST, Kinds.PART, 0);
        Kinds.in(x, by, 3, Kinds.MINE, 0);
        Kinds.in(x, by, 4, Kinds.NUMBER, -1);
        int less = Kinds.in(x, part, Kinds.NEXT, Kinds.SET, 0);
        int down = Kinds.in(x, less, Kinds.FIRST, Kinds.SUM, 0);
        Kinds.in(x, down, 3, Kinds.MINE, 0);
        Kinds.in(x, down, 4, Kinds.NUMBER, -1);
        x.cue(0, 0, 0, 0);
        x.top(0, one);
        x.flag();
        x.tick(1 + 63);
        due("who(0, 3) of 2 to the 31st", x.who(0, 3), MIN);
        x.tick(1);
        due("said(0, 1) of the least by -1", x.said(0, 1), MIN);
        x.tick(1);
        due("who(0, 3) less 1", x.who(0, 3), MAX);
    }

    private static void rowsOfNumbers() {
        check.about("MAKE, LAY, ITEM");
        for (int n : new int[] {0, 1, 19, 20, 21, 99, -1, -99}) {
            BlockStage x = new BlockStage();
            x.actor(0, 0, 1);
            x.block(Kinds.MAKE, 0);
            Kinds.in(x, 0, Kinds.FIRST, Kinds.NUMBER, n);
            x.cue(0, 0, 0, 0);
            x.top(0, 0);
            x.flag();
            x.tick(1);
            due("who(0, 5) of MAKE " + n, x.who(0, 5), n < 0 ? -1 : Math.min(n, 20));
            due("scriptOf(0, 7) of MAKE " + n, x.scriptOf(0, 7), n < 0 ? -14 : 0);
            due("item(0, n - 1)", x.item(0, n - 1), n > 0 && n <= 20 ? 0 : NO);
        }
        BlockStage x = new BlockStage();
        x.actor(0, 0, 1);
        int make = x.block(Kinds.MAKE, 0);
        Kinds.in(x, make, Kinds.FIRST, Kinds.NUMBER, 3);
        int lay = Kinds.in(x, make, Kinds.NEXT, Kinds.LAY, 0);
        int i = Kinds.in(x, lay, Kinds.FIRST, Kinds.NUMBER, 2);
        Kinds.in(x, lay, Kinds.SECOND, Kinds.NUMBER, 8);
        int say = Kinds.in(x, lay, Kinds.NEXT, Kinds.SAY, 0);
        int item = Kinds.in(x, say, Kinds.FIRST, Kinds.ITEM, 0);
        Kinds.in(x, item, Kinds.FIRST, Kinds.NUMBER, 2);
        int again = Kinds.in(x, say, Kinds.NEXT, Kinds.MAKE, 0);
        Kinds.in(x, again, Kinds.FIRST, Kinds.NUMBER, 4);
        x.cue(0, 0, 0, 0);
        x.top(0, make);
        x.flag();
        x.tick(3);
        due("said(0, 1) of ITEM 2", x.said(0, 1), 8);
        x.tick(1);
        due("item(0, 2) of a new row", x.item(0, 2), 0);
        for (int n : new int[] {-1, 3, 99}) {
            x.number(i, n);
            x.flag();
            x.tick(2);
            due("scriptOf(0, 7) of LAY " + n, x.scriptOf(0, 7), -12);
            due("scriptOf(0, 6) of LAY " + n, x.scriptOf(0, 6), lay);
        }
    }

    /** A refusal ends the step with nothing done, and the script sleeps for the rest of the run. */
    private static void refusals() {
        check.about("refusals");
        BlockStage x = new BlockStage();
        x.actor(0, 0, 1);
        int set = x.block(Kinds.SET, 0);
        Kinds.in(x, set, Kinds.FIRST, Kinds.NUMBER, 6);
        int bad = Kinds.in(x, set, Kinds.NEXT, Kinds.SET, 0);
        int sum = Kinds.in(x, bad, Kinds.FIRST, Kinds.SUM, 0);
        Kinds.in(x, sum, 3, Kinds.NUMBER, 1);
        Kinds.in(x, sum, 4, Kinds.PART, 0);
        Kinds.in(x, bad, Kinds.NEXT, Kinds.GO, 0);
        x.cue(0, Kinds.EVERY, 1, 1);
        x.cue(0, Kinds.EVERY, 3, 1);
        x.top(1, set);
        x.flag();
        x.tick(5);
        due("scriptOf(1, 5) at 5", x.scriptOf(1, 5), 2);
        due("scriptOf(1, 6) at 5", x.scriptOf(1, 6), bad);
        due("scriptOf(1, 7) at 5", x.scriptOf(1, 7), -15);
        due("scriptOf(0, 5) without a top", x.scriptOf(0, 5), 0);
        due("who(0, 3) stays", x.who(0, 3), 6);
        x.tick(10);
        due("scriptOf(1, 5) at 15", x.scriptOf(1, 5), 2);
        due("who(0, 0) never went", x.who(0, 0), 0);
        x.back(11);
        due("scriptOf(1, 5) at 4", x.scriptOf(1, 5), 2);
        x.back(1);
        due("scriptOf(1, 5) at 3", x.scriptOf(1, 5), 1);
        due("scriptOf(1, 7) at 3", x.scriptOf(1, 7), 0);
        x.flag();
        x.tick(3);
        due("scriptOf(1, 5) of a new run", x.scriptOf(1, 5), 1);
    }

    /** The refusal of a LAY with these rounds (one without numbers each), in a row of 0 or none. */
    private static int refusalOfLay(boolean row, int first, int second) {
        BlockStage x = new BlockStage();
        x.actor(0, 0, 1);
        int make = x.block(row ? Kinds.MAKE : Kinds.WAIT, 0);
        int lay = Kinds.in(x, make, Kinds.NEXT, Kinds.LAY, 0);
        Kinds.in(x, lay, Kinds.FIRST, first, 0);
        Kinds.in(x, lay, Kinds.SECOND, second, 0);
        x.cue(0, 0, 0, 0);
        x.top(0, make);
        x.flag();
        x.tick(2);
        return x.scriptOf(0, 7);
    }

    private static void refusalOrder() {
        check.about("the order of refusals");
        due("LAY in a missing row", refusalOfLay(false, Kinds.NUMBER, Kinds.NUMBER), -11);
        due("LAY in a row of 0", refusalOfLay(true, Kinds.NUMBER, Kinds.NUMBER), -12);
        due("LAY of PART in a missing row", refusalOfLay(false, Kinds.NUMBER, Kinds.PART), -15);
        due("LAY of PART in a row of 0", refusalOfLay(true, Kinds.NUMBER, Kinds.PART), -15);
        due("LAY at PART of ITEM", refusalOfLay(false, Kinds.PART, Kinds.ITEM), -15);
        due("LAY at ITEM of PART", refusalOfLay(false, Kinds.ITEM, Kinds.PART), -11);
        due("LAY at ITEM of PART in a row of 0", refusalOfLay(true, Kinds.ITEM, Kinds.PART), -12);
        BlockStage x = new BlockStage();
        x.actor(0, 0, 1);
        int say = x.block(Kinds.SAY, 0);
        int item = Kinds.in(x, say, Kinds.FIRST, Kinds.ITEM, 0);
        Kinds.in(x, item, Kinds.FIRST, Kinds.PART, 0);
        x.cue(0, 0, 0, 0);
        x.top(0, say);
        x.flag();
        x.tick(1);
        due("ITEM at PART in a missing row", x.scriptOf(0, 7), -15);
        due("count(5)", x.count(5), 0);
    }

    /** The blocks at which script 0 is behind each tick; -1 where it sleeps. */
    private static void places(BlockStage x, int... dues) {
        x.flag();
        for (int t = 0; t < dues.length; t++) {
            x.tick(1);
            due("scriptOf(0, 6) at " + (t + 1), x.scriptOf(0, 6), dues[t]);
            due("scriptOf(0, 5) at " + (t + 1), x.scriptOf(0, 5), dues[t] < 0 ? 0 : 1);
        }
    }

    private static void repeat() {
        check.about("REPEAT");
        BlockStage x = new BlockStage();
        x.actor(0, 0, 1);
        int outer = x.block(Kinds.REPEAT, 0);
        int times = Kinds.in(x, outer, Kinds.FIRST, Kinds.NUMBER, 2);
        int inner = Kinds.in(x, outer, Kinds.BODY, Kinds.REPEAT, 0);
        Kinds.in(x, inner, Kinds.FIRST, Kinds.NUMBER, 1);
        int body = Kinds.in(x, inner, Kinds.BODY, Kinds.WAIT, 0);
        int behind = Kinds.in(x, inner, Kinds.NEXT, Kinds.WAIT, 0);
        int next = Kinds.in(x, outer, Kinds.NEXT, Kinds.WAIT, 0);
        x.cue(0, 0, 0, 0);
        x.top(0, outer);
        places(x, inner, body, inner, behind, outer, inner, body, inner, behind, outer, next, -1, -1);
        x.number(times, 0);
        places(x, next, -1);
        x.number(times, -5);
        places(x, next, -1);
        x.take(times);
        places(x, next, -1);
    }

    private static void repeatWithoutBody() {
        check.about("REPEAT without a body");
        BlockStage x = new BlockStage();
        x.actor(0, 0, 1);
        int repeat = x.block(Kinds.REPEAT, 0);
        int times = Kinds.in(x, repeat, Kinds.FIRST, Kinds.NUMBER, 3);
        int next = Kinds.in(x, repeat, Kinds.NEXT, Kinds.WAIT, 0);
        x.cue(0, 0, 0, 0);
        x.top(0, repeat);
        places(x, repeat, repeat, repeat, next, -1);
        x.take(times);
        int sum = Kinds.in(x, repeat, Kinds.FIRST, Kinds.SUM, 0);
        x.join(sum, 3, times);
        x.number(times, 60);
        Kinds.in(x, sum, 4, Kinds.NUMBER, 60);
        x.flag();
        x.tick(99);
        due("scriptOf(0, 6) at 99", x.scriptOf(0, 6), repeat);
        x.tick(1);
        due("scriptOf(0, 6) at 100: 99 turns at most", x.scriptOf(0, 6), next);
    }

    private static void repeatRefusedOnlyFromAbove() {
        check.about("FIRST of REPEAT");
        BlockStage x = new BlockStage();
        x.actor(0, 0, 1);
        int repeat = x.block(Kinds.REPEAT, 0);
        int part = Kinds.in(x, repeat, Kinds.FIRST, Kinds.PART, 0);
        Kinds.in(x, part, 3, Kinds.NUMBER, 4);
        Kinds.in(x, part, 4, Kinds.MINE, 0);
        int body = Kinds.in(x, repeat, Kinds.BODY, Kinds.SET, 0);
        int two = x.block(Kinds.SET, 0);
        Kinds.in(x, two, Kinds.FIRST, Kinds.NUMBER, 2);
        x.join(two, Kinds.NEXT, repeat);
        x.cue(0, 0, 0, 0);
        x.top(0, two);
        places(x, repeat, body, repeat, body, repeat, -1);
        x.take(repeat);
        x.take(two);
        x.top(0, repeat);
        x.flag();
        x.tick(1);
        due("scriptOf(0, 7) from above", x.scriptOf(0, 7), -15);
    }

    private static void whileLoop() {
        check.about("WHILE");
        BlockStage x = new BlockStage();
        x.stage(3, 1);
        x.actor(0, 0, 1);
        int loop = x.block(Kinds.WHILE, 0);
        int not = Kinds.in(x, loop, Kinds.FIRST, Kinds.NOT, 0);
        Kinds.in(x, not, Kinds.FIRST, Kinds.WALLED, 0);
        int body = Kinds.in(x, loop, Kinds.BODY, Kinds.GO, 0);
        int next = Kinds.in(x, loop, Kinds.NEXT, Kinds.WAIT, 0);
        x.cue(0, 0, 0, 0);
        x.top(0, loop);
        places(x, body, loop, body, loop, next, -1);
        due("who(0, 0)", x.who(0, 0), 2);
        x.take(body);
        places(x, loop, loop, loop, loop);
        x.take(not);
        places(x, next, -1);
    }

    private static void ifShell() {
        check.about("IF");
        BlockStage x = new BlockStage();
        x.actor(0, 0, 1);
        int shell = x.block(Kinds.IF, 0);
        int less = Kinds.in(x, shell, Kinds.FIRST, Kinds.LESS, 0);
        int number = Kinds.in(x, less, Kinds.SECOND, Kinds.NUMBER, 1);
        int body = Kinds.in(x, shell, Kinds.BODY, Kinds.WAIT, 0);
        int other = Kinds.in(x, shell, Kinds.OTHER, Kinds.WAIT, 0);
        int second = Kinds.in(x, other, Kinds.NEXT, Kinds.WAIT, 0);
        int next = Kinds.in(x, shell, Kinds.NEXT, Kinds.WAIT, 0);
        x.cue(0, 0, 0, 0);
        x.top(0, shell);
        places(x, body, next, -1);
        x.number(number, 0);
        places(x, other, second, next, -1);
        x.take(other);
        places(x, next, -1);
        x.number(number, 1);
        x.take(body);
        places(x, next, -1);
        x.take(less);
        x.join(shell, Kinds.OTHER, other);
        places(x, other, second, next, -1);
    }

    /** From a block behind two IFs the script goes on to what is behind the outer one, or to the loop. */
    private static void onThroughIfs() {
        check.about("on through IFs");
        BlockStage x = new BlockStage();
        x.actor(0, 0, 1);
        int loop = x.block(Kinds.WHILE, 0);
        int not = Kinds.in(x, loop, Kinds.FIRST, Kinds.NOT, 0);
        int first = Kinds.in(x, loop, Kinds.BODY, Kinds.WAIT, 0);
        int outer = Kinds.in(x, first, Kinds.NEXT, Kinds.IF, 0);
        int inner = Kinds.in(x, outer, Kinds.OTHER, Kinds.IF, 0);
        int leaf = Kinds.in(x, inner, Kinds.OTHER, Kinds.WAIT, 0);
        x.cue(0, 0, 0, 0);
        x.top(0, loop);
        places(x, first, outer, inner, leaf, loop, first, outer, inner, leaf, loop);
        int behind = Kinds.in(x, outer, Kinds.NEXT, Kinds.WAIT, 0);
        places(x, first, outer, inner, leaf, behind, loop, first);
        x.take(leaf);
        places(x, first, outer, inner, behind, loop, first);
        x.take(behind);
        places(x, first, outer, inner, loop, first);
        x.take(not);
        places(x, -1, -1);
        x.take(first);
        x.take(loop);
        x.top(0, first);
        places(x, outer, inner, -1, -1);
    }

    private static void caps() {
        check.about("caps");
        for (int c = 1; c <= 9; c++) {
            BlockStage x = new BlockStage();
            x.actor(0, 0, 0);
            Kinds.row(x, 0, Kinds.EVERY, c, 0, Kinds.SAY);
            Kinds.row(x, 0, Kinds.FLAG, 0, 0, Kinds.TURN);
            Kinds.row(x, 1, Kinds.FLAG, 0, 0, Kinds.SAY);
            x.cue(0, Kinds.FLAG, 0, 0);
            x.flag();
            x.tick(40);
            due("count(5) of every " + c, x.count(5), 40 / c);
            due("said(0, 2) of every " + c, x.said(0, 2), c);
            due("said(1, 2) of every " + c, x.said(1, 2), 2 * c);
            due("scriptOf(2, 5) without its actor", x.scriptOf(2, 5), 0);
            due("scriptOf(3, 5) without a top", x.scriptOf(3, 5), 0);
        }
    }

    private static void again() {
        check.about("AGAIN");
        for (int again = 0; again < 2; again++) {
            BlockStage x = new BlockStage();
            x.actor(0, 0, 0);
            Kinds.row(x, 0, Kinds.EVERY, 2, again, Kinds.WAIT, Kinds.WAIT, Kinds.SAY);
            x.flag();
            x.tick(20);
            due("count(5) with again " + again, x.count(5), again == 1 ? 0 : 5);
            due("scriptOf(0, 6) at 20", x.scriptOf(0, 6), again == 1 ? 1 : -1);
        }
        BlockStage x = new BlockStage();
        x.actor(0, 0, 0);
        x.block(Kinds.REPEAT, 0);
        Kinds.in(x, 0, Kinds.FIRST, Kinds.NUMBER, 5);
        Kinds.in(x, 0, Kinds.NEXT, Kinds.SAY, 0);
        x.cue(0, Kinds.EVERY, 4, 1);
        x.top(0, 0);
        x.flag();
        x.tick(30);
        due("count(5): its turns begin anew", x.count(5), 0);
        due("scriptOf(0, 6)", x.scriptOf(0, 6), 0);
    }

    private static void calls() {
        check.about("CALL");
        BlockStage x = new BlockStage();
        x.actor(0, 0, 0);
        x.actor(0, 0, 0);
        int wait = x.block(Kinds.WAIT, 0);
        Kinds.in(x, wait, Kinds.NEXT, Kinds.CALL, 3);
        x.cue(1, Kinds.FLAG, 0, 0);
        x.top(0, wait);
        for (int c = 0; c < 4; c++) {
            int say = x.block(Kinds.SAY, 0);
            Kinds.in(x, say, Kinds.FIRST, Kinds.NUMBER, c);
            x.cue(0, Kinds.CALLED, c, 0);
            x.top(c + 1, say);
        }
        x.flag();
        x.tick(2);
        due("count(5) at 2", x.count(5), 0);
        x.tick(1);
        due("count(5) at 3", x.count(5), 1);
        due("said(0, 0)", x.said(0, 0), 0);
        due("said(0, 1)", x.said(0, 1), 3);
        due("said(0, 2)", x.said(0, 2), 3);
        x.tick(5);
        due("count(5) at 8", x.count(5), 1);
        x.number(x.scriptOf(0, 4) + 1, 0);
        x.flag();
        x.tick(3);
        due("said(0, 1) of call 0", x.said(0, 1), 0);
        x.flag();
        x.tick(2);
        x.flag();
        x.tick(1);
        due("count(5): no call is left from the run ahead", x.count(5), 0);
        x.tick(1);
        x.back(2);
        x.tick(1);
        due("count(5): no call is left from what was gone back", x.count(5), 0);
        x.tick(2);
        due("count(5) at 3", x.count(5), 1);
    }

    private static void meetings() {
        check.about("MEETING, MET");
        BlockStage x = new BlockStage();
        x.stage(5, 1);
        x.actor(0, 0, 1);
        x.actor(2, 0, 1);
        x.actor(4, 0, 3);
        Kinds.row(x, 0, Kinds.FLAG, 0, 0, Kinds.GO, Kinds.GO, Kinds.GO);
        Kinds.row(x, 1, Kinds.MEETING, 0, 0, Kinds.SAY);
        int say = x.block(Kinds.SAY, 0);
        Kinds.in(x, say, Kinds.FIRST, Kinds.MET, 0);
        x.cue(0, Kinds.EVERY, 1, 0);
        x.top(2, say);
        x.flag();
        x.tick(5);
        int[][] dues = {{0, 0, 1}, {0, 1, 2}, {1, 0, 3}, {0, 0, 3}, {0, 0, 4}, {0, 0, 5}};
        for (int i = 0; i < dues.length; i++) {
            for (int what = 0; what < 3; what++) due("said(" + i + ", " + what + ")", x.said(i, what), dues[i][what]);
        }
        due("count(5)", x.count(5), dues.length);
    }

    /** A script sees what one with a lower number did in the same tick; waking is ahead of all steps. */
    private static void wakesAheadOfSteps() {
        check.about("waking ahead of steps");
        BlockStage x = new BlockStage();
        x.stage(2, 1);
        x.actor(0, 0, 1);
        x.actor(1, 0, 1);
        Kinds.row(x, 1, Kinds.MEETING, 0, 0, Kinds.SAY);
        Kinds.row(x, 0, Kinds.FLAG, 0, 0, Kinds.GO, Kinds.TAKE);
        Kinds.row(x, 1, Kinds.MEETING, 0, 0, Kinds.SAY);
        x.flag();
        x.tick(1);
        due("count(5) at 1", x.count(5), 0);
        x.tick(1);
        due("count(5) at 2", x.count(5), 2);
        x = new BlockStage();
        x.actor(0, 0, 1);
        x.things(0, 0, 2);
        for (int s = 0; s < 4; s += 2) {
            Kinds.row(x, 0, Kinds.FLAG, 0, 0, Kinds.TAKE);
            int say = x.block(Kinds.SAY, 0);
            Kinds.in(x, say, Kinds.FIRST, Kinds.HERE, 0);
            due("cue " + s, x.cue(0, Kinds.FLAG, 0, 0), s + 1);
            x.top(s + 1, say);
        }
        x.flag();
        x.tick(1);
        due("said(0, 1)", x.said(0, 1), 1);
        due("said(1, 1)", x.said(1, 1), 0);
        due("look(0, 0)", x.look(0, 0), 0);
    }
}
