/** Promises 31 to 34, what Term 5 says of texts and Term 6 of acts. */
final class TextEdges extends Edges {
    private static final int SAY = 5, IF = 12, NUMBER = 13, LESS = 20;

    TextEdges(Doc doc) {
        super(doc);
    }

    void run() {
        termText();
        termHoles();
        write();
        text();
        termActs();
        termBodies();
        termFamilies();
        termTrace();
        act();
        trace();
    }

    /** The text of a script, which has just so many bytes. */
    private void texts(BlockStage x, int script, String due) {
        isText(Kinds.text(x, script), due);
        is(x.text(due.length()), NONE);
    }

    private void termText() {
        term(5, "THE TEXT of a SCRIPT: that of its TOP.", x -> {
            Words.flagged(x, "GO TAKE");
            Words.flagged(x, "PUT");
            x.block(7, 0);
            texts(x, 0, "ac");
            texts(x, 1, "d");
            x.take(0);
            x.top(0, 3);
            texts(x, 0, "h");
        });
        term(5, "The TEXT of a BLOCK: the byte 97 + KIND", x -> {
            String[] orders = {"a", "b0", "c", "d", "e()", "f()", "g0", "h", "i()", "j()()", "k()()", "l()()", "m()()()"};
            String[] rounds = {"n0", "o", "p()()", "q", "r()", "s()()", "t", "u()()", "v()", "w"};
            x.cue(0, 0, 0, 0);
            for (int kind = 0; kind < 13; kind++) {
                int order = x.block(kind, 0);
                x.top(0, order);
                texts(x, 0, orders[kind]);
                x.take(order);
            }
            x.top(0, SAY);
            for (int kind = 13; kind < 23; kind++) {
                int round = x.block(kind, 0);
                x.join(SAY, 3, round);
                texts(x, 0, "f(" + rounds[kind - 13] + ")");
                x.take(round);
            }
        });
        term(5, "of TURN, CALL, NUMBER n (perhaps -, digits without zeros ahead)", x -> {
            int[] numbers = {0, 1, 9, 10, 11, 90, 99, -1, -9, -10, -11, -90, -99};
            for (int n : numbers) {
                BlockStage y = new BlockStage();
                Words.flagged(y, "SAY(" + n + ")");
                texts(y, 0, "f(n" + n + ")");
            }
            for (int n = 0; n < 4; n++) {
                BlockStage y = new BlockStage();
                Words.flagged(y, "TURN" + n + " CALL" + n + " GO");
                texts(y, 0, "b" + n + "g" + n + "a");
            }
            Words.flagged(x, "SAY(-99) TURN1");
            x.number(1, 5);
            x.number(2, 3);
            texts(x, 0, "f(n5)b3");
        });
    }

    private void termHoles() {
        term(5, "for each of the HOLES 3, 4, 1, 2 that it has: (, the TEXT of what is in it, )", x -> {
            Words.flagged(x, "IF(MET)(GO)(TAKE)");
            Words.flagged(x, "LAY(MINE)(HERE)");
            Words.flagged(x, "REPEAT(7)(GO TAKE)");
            Words.flagged(x, "WHILE(NOT(LESS(1)(-2)))");
            texts(x, 0, "m(w)(a)(c)");
            texts(x, 1, "j(o)(q)");
            texts(x, 2, "k(n7)(ac)");
            texts(x, 3, "l(v(u(n1)(n-2)))()");
            x.take(1);
            x.take(2);
            texts(x, 0, "m()()(c)");
            x.take(5);
            texts(x, 1, "j()(q)");
        });
        term(5, "then the TEXT of what is in NEXT.", x -> {
            Words.flagged(x, "IF()(GO PUT)(WAIT WAIT) SAY TAKE");
            texts(x, 0, "m()(ad)(hh)f()c");
            x.take(5);
            texts(x, 0, "m()(ad)(hh)");
            BlockStage row = new BlockStage();
            StringBuilder words = new StringBuilder();
            StringBuilder due = new StringBuilder();
            for (int i = 0; i < 30; i++) {
                words.append("IF ");
                due.append("m()()()");
            }
            Words.flagged(row, words.toString());
            texts(row, 0, due.toString());
        });
    }

    private void write() {
        promise(31, "THE TEXT of a SCRIPT is written: how many bytes", x -> {
            Words.flagged(x, "REPEAT(3)(GO)");
            is(x.write(0), 8);
            is(x.write(0), 8);
            is(x.text(0), 'k');
            // Neither a RUN nor a number told later is in it, till it is written again.
            x.flag();
            is(x.write(0), 8);
            is(x.count(4), 0);
            x.number(1, -10);
            is(x.text(3), '3');
            is(x.write(0), 10);
            is(x.text(3), '-');
            BlockStage deep = new BlockStage();
            deep.cue(0, 0, 0, 0);
            for (int b = 0; b < 30; b++) {
                deep.block(IF, 0);
                if (b > 0) deep.join(b - 1, 1 + b % 2, b);
            }
            deep.top(0, 0);
            is(deep.write(0), 210);
            is(deep.text(209), ')');
            is(deep.text(210), NONE);
        });
        promise(31, "NONE", x -> {
            is(x.write(0), NONE);
            Words.flagged(x, "GO");
            for (int bad : new int[] {-1, 1, 5, 6, MIN, MAX}) is(x.write(bad), NONE);
            is(x.write(0), 1);
            is(x.write(1), NONE);
            is(x.text(0), 'a');
        });
        promise(31, "STATE: it has no TOP", x -> {
            x.cue(0, 0, 0, 0);
            is(x.write(0), STATE);
            x.top(0, x.block(0, 0));
            is(x.write(0), 1);
            x.take(0);
            is(x.write(0), STATE);
            is(x.text(0), 'a');
        });
    }

    private void text() {
        promise(32, "Byte i of it", x -> {
            Words.flagged(x, "LAY(-7)(MINE) GO");
            String due = "j(n-7)(o)a";
            is(x.write(0), due.length());
            for (int i = due.length() - 1; i >= 0; i--) is(x.text(i), due.charAt(i));
            // A shorter one leaves nothing of a longer one.
            Words.flagged(x, "GO");
            is(x.write(1), 1);
            is(x.text(0), 'a');
            is(x.text(1), NONE);
        });
        promise(32, "NONE: none such", x -> {
            for (int i : new int[] {0, 1, -1, MIN, MAX}) is(x.text(i), NONE);
            Words.flagged(x, "TURN3");
            is(x.text(0), NONE);
            is(x.write(0), 2);
            is(x.text(1), '3');
            for (int bad : new int[] {-1, 2, 3, 300, MIN, MAX}) is(x.text(bad), NONE);
        });
    }

    /** An act's answer, and the bodies that ran. */
    private void acts(BlockStage x, int block, int act, int with, int due, int... bodies) {
        is(x.act(block, act, with), due);
        for (int i = 0; i < bodies.length; i++) is(x.trace(i), bodies[i]);
        is(x.trace(bodies.length), NONE);
        is(x.count(9), bodies.length);
    }

    /** Blocks 0 to 8: GO, GO, NUMBER -40, GO, TURN 3, GO, IF, GO, LESS. */
    private static void families(BlockStage x) {
        Words.blocks(x, "GO GO");
        x.block(NUMBER, -40);
        Words.blocks(x, "GO TURN3 GO IF GO");
        x.block(LESS, 0);
    }

    private void termActs() {
        term(6, "ACTS of BLOCKS with a number x (wrapping): 0 runs, 1 costs, 2 tells", x -> {
            families(x);
            is(x.act(2, 0, 5), 7);
            is(x.act(2, 1, 5), 42);
            is(x.act(2, 2, 5), -11);
            is(x.act(2, 0, MAX), MIN + 1);
            is(x.act(4, 0, MIN), MIN + 1);
            is(x.act(1, 0, MAX), MIN);
            is(x.act(3, 1, 1 << 30), MIN + 6);
            is(x.act(2, 1, MAX), 6 * (MIN + 1));
            is(x.act(6, 1, MAX), 2 * (MIN + 5) + 3);
            is(x.act(6, 2, MAX), (2 * (MIN + 6) + 3) ^ (MIN + 6));
            is(x.act(8, 2, MAX), 6 * ((MIN + 7) ^ 7) - (6 * ((MIN + 7) ^ 7) ^ ((MIN + 7) ^ 7)));
        });
        term(6, "m its number, n as it is.", x -> {
            for (int b = 0; b < 30; b++) {
                x.block(NUMBER, 0);
                is(x.act(b, 0, 100), 100 + b);
            }
            x.number(3, 50);
            is(x.act(3, 0, 100), 103);
            is(x.act(3, 2, 100), (6 * 103) ^ 153);
            x.number(3, -99);
            is(x.act(3, 2, 100), (6 * 103) ^ 4);
            BlockStage y = new BlockStage();
            y.block(6, 1);
            is(y.act(0, 0, 100), 99);
            y.number(0, 3);
            is(y.act(0, 0, 100), 97);
        });
    }

    /** An answer to each of many x, by what the document's words come to for this block and act. */
    private void eachX(int block, int act, Formula due) {
        BlockStage x = new BlockStage();
        families(x);
        int[] far = {MIN, MIN + 1, MAX, MAX - 1, 1 << 30, -(1 << 30), 1 << 15, 12345678};
        for (int i = -50; i < 50 + far.length; i++) {
            int with = i < 50 ? i : far[i - 50];
            is(x.act(block, act, with), due.of(with));
        }
    }

    private interface Formula {
        int of(int x);
    }

    private void termBodies() {
        term(6, "BODIES, each with its number: any BLOCK: 10 runs: x + m.", x -> {
            families(x);
            acts(x, 2, 0, 5, 7, 10);
            acts(x, 2, 0, -2, 0, 10);
            eachX(2, 0, v -> v + 2);
        });
        term(6, "11 costs: runs(x) * 2.", x -> {
            families(x);
            acts(x, 4, 1, 10, 22, 11, 20, 10);
            acts(x, 0, 1, 10, 20, 11, 20, 10);
            eachX(4, 1, v -> (v + 1) * 2);
        });
        term(6, "12 tells: costs(x) ^ runs(x + n).", x -> {
            families(x);
            acts(x, 4, 2, 10, 24, 12, 11, 20, 10, 20, 10);
            acts(x, 2, 2, 5, -11, 12, 40, 11, 10, 10);
            eachX(4, 2, v -> (v + 1) * 2 ^ v + 4);
            eachX(2, 2, v -> (v + 2) * 6 ^ v - 38);
        });
        term(6, "ORDERS: 20 runs: super.runs(x) - n.", x -> {
            families(x);
            acts(x, 4, 0, 10, 11, 20, 10);
            acts(x, 6, 0, 10, 16, 20, 10);
            eachX(4, 0, v -> v + 1);
            eachX(6, 0, v -> v + 6);
        });
        term(6, "SHELLS: 30 costs: super.costs(x) + 3.", x -> {
            families(x);
            acts(x, 6, 1, 10, 35, 30, 11, 20, 10);
            eachX(6, 1, v -> (v + 6) * 2 + 3);
        });
        term(6, "31 tells: super.tells(x + 1).", x -> {
            families(x);
            acts(x, 6, 2, 10, 52, 31, 12, 30, 11, 20, 10, 20, 10);
            eachX(6, 2, v -> (v + 7) * 2 + 3 ^ v + 7);
        });
        term(6, "ROUNDS: 40 costs: super.costs(x) * 3.", x -> {
            families(x);
            acts(x, 2, 1, 5, 42, 40, 11, 10);
            acts(x, 8, 1, 10, 126, 40, 11, 50, 10);
            eachX(2, 1, v -> (v + 2) * 6);
            eachX(8, 1, v -> (v + 8 ^ 7) * 6);
        });
        term(6, "SHARPS: 50 runs: super.runs(x) ^ 7.", x -> {
            families(x);
            acts(x, 8, 0, 10, 21, 50, 10);
            eachX(8, 0, v -> v + 8 ^ 7);
            BlockStage y = new BlockStage();
            for (int b = 0; b < 30; b++) {
                y.block(19 + b % 4, 0);
                for (int v = -3; v < 4; v++) is(y.act(b, 0, v), v + b ^ 7);
            }
        });
        term(6, "51 tells: costs(x) - super.tells(x).", x -> {
            families(x);
            acts(x, 8, 2, 10, 19, 51, 40, 11, 50, 10, 12, 40, 11, 50, 10, 50, 10);
            eachX(8, 2, v -> (v + 8 ^ 7) * 6 - ((v + 8 ^ 7) * 6 ^ (v + 8 ^ 7)));
        });
    }

    private void termFamilies() {
        term(6, "runs(..) and so on: the body of the BLOCK's family, or, if that has none, of the next one above that has one", x -> {
            int[][] first = {{20, 11, 12}, {20, 30, 31}, {10, 40, 12}, {50, 40, 51}};
            for (int kind = 0; kind < 23; kind++) {
                x.block(kind, 0);
                int family = kind < 10 ? 0 : kind < 13 ? 1 : kind < 19 ? 2 : 3;
                for (int act = 0; act < 3; act++) {
                    x.act(kind, act, 1);
                    is(x.trace(0), first[family][act]);
                }
            }
        });
        term(6, "super.runs(..): so from the family above the body's on.", x -> {
            families(x);
            // From 20 to 10, from 31 to 12 (ORDERS have no tells), from 51 to 12 (ROUNDS have none).
            acts(x, 0, 0, 1, 1, 20, 10);
            x.act(6, 2, 1);
            is(x.trace(1), 12);
            x.act(8, 2, 1);
            is(x.trace(5), 12);
            // Within a body from above the BLOCK's own bodies run: 11 of a SHARP runs 50.
            x.act(8, 1, 1);
            is(x.trace(2), 50);
            x.act(6, 1, 1);
            is(x.trace(2), 20);
        });
    }

    private void termTrace() {
        term(6, "THE TRACE: the numbers of the bodies that ran in the latest act(), in the order in which they began", x -> {
            families(x);
            acts(x, 8, 2, 0, 5, 51, 40, 11, 50, 10, 12, 40, 11, 50, 10, 50, 10);
            acts(x, 2, 0, 0, 2, 10);
            acts(x, 4, 1, 0, 2, 11, 20, 10);
            x.flag();
            x.write(0);
            x.stage(1, 1);
            x.block(0, 0);
            is(x.trace(0), 11);
            is(x.count(9), 3);
        });
        term(6, "the first 30 are kept.", x -> {
            families(x);
            // No act has more than twelve bodies: all of them are kept.
            x.act(8, 2, 0);
            for (int i = 0; i < 12; i++) is(x.trace(i) > 0 ? 1 : 0, 1);
            for (int i = 12; i < 32; i++) is(x.trace(i), NONE);
            is(x.count(9), 12);
        });
    }

    private void act() {
        promise(33, "An ACT of a BLOCK with x", x -> {
            families(x);
            int[][] due = {{11, 22, 24}, {16, 35, 52}, {12, 72, 72 ^ -28}, {21, 126, 19}};
            for (int i = 0; i < 4; i++) {
                for (int act = 0; act < 3; act++) is(x.act(new int[] {4, 6, 2, 8}[i], act, 10), due[i][act]);
            }
            // Wherever it is, and with a RUN, which goes on.
            x.flag();
            is(x.act(1, 0, 4), 5);
            is(x.count(4), 0);
        });
        promise(33, "0, and no TRACE then: no such BLOCK", x -> {
            is(x.act(0, 0, 7), 0);
            families(x);
            for (int bad : new int[] {-1, 9, 29, 30, MIN, MAX}) {
                is(x.act(8, 2, 10), 19);
                is(x.act(bad, 0, 7), 0);
                is(x.trace(0), NONE);
                is(x.count(9), 0);
            }
        });
        promise(33, " act.", x -> {
            families(x);
            for (int bad : new int[] {-1, 3, 4, 10, MIN, MAX}) {
                is(x.act(8, 2, 10), 19);
                is(x.act(8, bad, 10), 0);
                is(x.trace(0), NONE);
                is(x.count(9), 0);
            }
        });
    }

    private void trace() {
        promise(34, "THE TRACE's i-th body", x -> {
            families(x);
            x.act(6, 1, 10);
            int[] due = {30, 11, 20, 10};
            for (int i = 3; i >= 0; i--) is(x.trace(i), due[i]);
        });
        promise(34, "NONE: none such", x -> {
            for (int i : new int[] {0, -1, MIN, MAX}) is(x.trace(i), NONE);
            families(x);
            is(x.trace(0), NONE);
            x.act(8, 2, 0);
            x.act(2, 0, 0);
            is(x.trace(0), 10);
            for (int bad : new int[] {-1, 1, 11, 12, 29, 30, MIN, MAX}) is(x.trace(bad), NONE);
        });
    }
}
