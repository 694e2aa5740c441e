/** Promises 19 to 24 and what Term 3 says of runs and of waking. */
final class RunEdges extends Edges {
    RunEdges(Doc doc) {
        super(doc);
    }

    void run() {
        termRun();
        termWakes();
        termCaps();
        flag();
        tick();
        back();
        who();
        item();
        said();
    }

    private void termRun() {
        term(3, "A RUN has a STAGE of its own, as THE BEGINNING is when it begins", x -> {
            x.things(0, 0, 2);
            x.actor(0, 0, 1);
            x.actor(3, 3, 0);
            Words.flagged(x, "TAKE GO SET(5) MAKE(3)");
            for (int times = 0; times < 2; times++) {
                x.flag();
                is(x.look(0, 0), 2);
                is(x.who(0, 0), 0);
                is(x.who(0, 3), 0);
                is(x.who(0, 5), -1);
                is(x.who(1, 1), 3);
                x.tick(4);
                is(x.look(0, 0), 1);
                is(x.who(0, 0), 1);
                is(x.who(0, 3), 5);
                is(x.who(0, 5), 3);
            }
            x.keep();
            x.use(0);
            is(x.look(0, 0), 2);
            is(x.who(0, 0), 0);
        });
        term(3, "and TICKS 1, 2, .. 300.", x -> {
            x.actor(0, 0, 0);
            Words.script(x, 0, EVERY, 1, 0, "SAY(1)");
            x.flag();
            for (int t = 1; t <= 40; t++) is(x.tick(1), t);
            is(x.said(0, 2), 1);
            is(x.said(39, 2), 40);
            x.tick(100);
            x.tick(100);
            is(x.tick(60), 300);
            is(x.count(5), 300);
            is(x.tick(1), FULL);
            is(x.count(5), 300);
        });
    }

    private void termWakes() {
        term(3, "At a TICK first all SCRIPTS WAKE that have a TOP", x -> {
            x.actor(0, 0, 0);
            x.cue(0, EVERY, 1, 0);
            x.flag();
            x.tick(3);
            is(x.scriptOf(0, 5), 0);
            is(x.scriptOf(0, 6), -1);
            // All wake first: both hear the call of the tick ahead, whatever script 0 does then.
            Words.script(x, 0, EVERY, 2, 0, "CALL1");
            Words.script(x, 0, CALLED, 1, 0, "SAY(1)");
            x.flag();
            x.tick(2);
            is(x.count(5), 0);
            x.tick(1);
            is(x.count(5), 1);
        });
        term(3, "At a TICK first all SCRIPTS WAKE", x -> {
            // What script 0 does at a TICK, scripts behind it do not meet or hear at that TICK yet.
            x.stage(3, 1);
            x.actor(0, 0, 1);
            x.actor(1, 0, 1);
            Words.flagged(x, "GO GO CALL0 CALL0");
            Words.script(x, 1, MEETING, 0, 0, "SAY(5)");
            Words.script(x, 1, CALLED, 0, 0, "SAY(6)");
            x.flag();
            int[] said = {0, 1, 1, 2, 3};
            for (int t = 1; t <= 5; t++) {
                x.tick(1);
                is(x.count(5), said[t - 1]);
                is(x.who(0, 0), t < 2 ? 1 : 2);
            }
            is(x.said(0, 1), 5);
            is(x.said(1, 1), 6);
            is(x.said(2, 1), 6);
        });
        term(3, "and an ACTOR that is there", x -> {
            x.actor(0, 0, 0);
            Words.script(x, 2, FLAG, 0, 0, "SAY(1) SAY(2)");
            Words.script(x, 1, MEETING, 0, 0, "SAY(1)");
            Words.script(x, 1, EVERY, 1, 1, "SAY(1)");
            x.flag();
            x.tick(20);
            is(x.count(5), 0);
            for (int s = 0; s < 3; s++) is(x.scriptOf(s, 5), 0);
            x.actor(1, 1, 0);
            x.flag();
            x.tick(20);
            is(x.count(5), 20);
            is(x.said(19, 0), 1);
        });
        term(3, "are not LIT", x -> {
            x.actor(0, 0, 0);
            for (int again = 0; again < 2; again++) Words.script(x, 0, EVERY, 1, again, "SAY(PART(1)(MINE))");
            Words.script(x, 0, EVERY, 1, 0, "SET(1)");
            x.flag();
            x.tick(9);
            is(x.count(5), 0);
            is(x.scriptOf(0, 5), 2);
            is(x.scriptOf(1, 5), 2);
            is(x.who(0, 3), 1);
        });
        term(3, "One that was AWAKE begins anew if AGAIN is 1, else it goes on.", x -> {
            x.actor(0, 0, 0);
            Words.script(x, 0, EVERY, 3, 1, "WAIT WAIT WAIT SAY(1)");
            Words.script(x, 0, EVERY, 3, 0, "WAIT WAIT WAIT SAY(2)");
            Words.script(x, 0, EVERY, 4, 1, "WAIT WAIT WAIT SAY(3)");
            Words.script(x, 0, EVERY, 2, 1, "REPEAT(5) SAY(4)");
            x.flag();
            x.tick(3);
            is(x.scriptOf(0, 6), 1);
            x.tick(3);
            is(x.scriptOf(0, 6), 1);
            is(x.scriptOf(1, 6), -1);
            x.tick(1);
            is(x.count(5), 2);
            is(x.said(0, 1), 2);
            is(x.said(0, 2), 6);
            is(x.said(1, 1), 3);
            is(x.said(1, 2), 7);
            x.tick(93);
            for (int i = 0; i < 30; i++) is(x.said(i, 1) == 1 || x.said(i, 1) == 4 ? 1 : 0, 0);
        });
        term(3, "Then each that is AWAKE, by numbers, does the STEP of the BLOCK at which it is (at first its TOP):", x -> {
            x.actor(0, 0, 0);
            for (int s = 0; s < 6; s++) Words.script(x, 0, FLAG, 0, 0, "SAY(" + s + ") SAY(" + (s + 10) + ")");
            x.flag();
            x.tick(1);
            for (int s = 0; s < 6; s++) {
                is(x.said(s, 1), s);
                is(x.said(s, 2), 1);
                is(x.scriptOf(s, 6), 4 * s + 2);
            }
            x.tick(1);
            for (int s = 0; s < 6; s++) is(x.said(s + 6, 1), s + 10);
            is(x.count(5), 12);
            x.tick(1);
            is(x.count(5), 12);
        });
    }

    private void termCaps() {
        term(3, "and of which the CAP is hit: FLAG at TICK 1", x -> {
            x.actor(0, 0, 0);
            Words.flagged(x, "SAY(1)");
            x.flag();
            is(x.count(5), 0);
            x.tick(1);
            is(x.count(5), 1);
            x.tick(30);
            is(x.count(5), 1);
        });
        term(3, "CALL c if c was sent in the TICK ahead", x -> {
            x.actor(0, 0, 0);
            Words.script(x, 0, CALLED, 0, 0, "SAY(0)");
            Words.flagged(x, "WAIT CALL0 WAIT CALL3");
            Words.script(x, 0, CALLED, 3, 0, "SAY(3)");
            Words.script(x, 0, CALLED, 2, 0, "SAY(2)");
            x.flag();
            x.tick(2);
            is(x.count(5), 0);
            x.tick(1);
            is(x.said(0, 1), 0);
            is(x.said(0, 2), 3);
            x.tick(1);
            is(x.count(5), 1);
            x.tick(1);
            is(x.said(1, 1), 3);
            is(x.said(1, 2), 5);
            x.tick(20);
            is(x.count(5), 2);
            // A call sent last is not heard in a new RUN, nor one that was gone back behind.
            x.flag();
            x.tick(2);
            x.flag();
            x.tick(1);
            is(x.count(5), 0);
            x.tick(1);
            x.back(1);
            is(x.count(5), 0);
            x.tick(2);
            is(x.count(5), 1);
        });
        term(3, "EVERY c if c divides the TICK", x -> {
            for (int c = 1; c <= 9; c++) {
                BlockStage y = new BlockStage();
                y.actor(0, 0, 0);
                Words.script(y, 0, EVERY, c, 0, "SAY(1)");
                y.flag();
                y.tick(c - 1 > 0 ? c - 1 : 1);
                is(y.count(5), c == 1 ? 1 : 0);
                y.back(c - 1 > 0 ? c - 1 : 1);
                y.tick(50);
                is(y.count(5), 50 / c);
                for (int i = 0; i < 50 / c; i++) is(y.said(i, 2), c * (i + 1));
            }
        });
        term(3, "MEETING if MET is 1 for its ACTOR.", x -> {
            x.stage(3, 1);
            x.actor(0, 0, 1);
            x.actor(1, 0, 1);
            x.actor(2, 0, 1);
            for (int a = 0; a < 3; a++) Words.script(x, a, MEETING, 0, 0, "SAY(1)");
            Words.flagged(x, "GO WAIT GO");
            x.flag();
            x.tick(1);
            is(x.count(5), 0);
            x.tick(2);
            is(x.count(5), 4);
            for (int i = 0; i < 4; i++) is(x.said(i, 0), i % 2);
            x.tick(1);
            is(x.said(4, 0), 0);
            is(x.said(5, 0), 2);
            is(x.said(4, 2), 4);
            is(x.count(5), 6);
        });
    }

    private void flag() {
        promise(19, "A RUN begins, at TICK 0: 1", x -> {
            is(x.flag(), 1);
            is(x.count(4), 0);
            x.actor(0, 0, 1);
            Words.flagged(x, "SAY(1) GO SAY(PART(1)(0))");
            x.flag();
            is(x.scriptOf(0, 5), 0);
            is(x.count(5), 0);
            x.tick(3);
            is(x.scriptOf(0, 5), 2);
            // A new one has nothing of the one ahead.
            is(x.flag(), 1);
            is(x.count(4), 0);
            is(x.scriptOf(0, 5), 0);
            is(x.scriptOf(0, 6), -1);
            is(x.scriptOf(0, 7), 0);
            is(x.count(5), 0);
            is(x.said(0, 0), NO);
            is(x.who(0, 0), 0);
            is(x.back(1), BAD);
            is(x.tick(2), 2);
            is(x.who(0, 0), 1);
        });
    }

    private void tick() {
        promise(20, "n TICKS (1 .. 100): at which TICK it is", x -> {
            x.actor(0, 0, 0);
            Words.script(x, 0, EVERY, 1, 0, "SET(SUM(MINE)(1))");
            x.flag();
            is(x.tick(1), 1);
            is(x.who(0, 3), 1);
            is(x.tick(100), 101);
            is(x.who(0, 3), 101);
            is(x.tick(99), 200);
            is(x.count(4), 200);
        });
        promise(20, "STATE: there is no RUN", x -> {
            for (int n : new int[] {0, 1, 100, 101, -1, MIN, MAX}) is(x.tick(n), STATE);
            x.flag();
            x.block(0, 0);
            is(x.tick(1), STATE);
        });
        promise(20, "BAD", x -> {
            x.flag();
            for (int bad : new int[] {0, -1, 101, MIN, MAX}) is(x.tick(bad), BAD);
            is(x.count(4), 0);
            for (int i = 0; i < 3; i++) x.tick(100);
            for (int bad : new int[] {0, -1, 101, MIN, MAX}) is(x.tick(bad), BAD);
        });
        promise(20, "FULL: beyond 300", x -> {
            x.flag();
            for (int i = 1; i <= 2; i++) is(x.tick(100), 100 * i);
            is(x.tick(1), 201);
            is(x.tick(100), FULL);
            is(x.count(4), 201);
            is(x.tick(98), 299);
            is(x.tick(2), FULL);
            is(x.tick(1), 300);
            is(x.tick(1), FULL);
            is(x.tick(100), FULL);
            is(x.back(1), 299);
            is(x.tick(1), 300);
            is(x.flag(), 1);
            is(x.tick(100), 100);
        });
    }

    private void same(int[] got, int[] due) {
        for (int i = 0; i < due.length; i++) is(got[i], due[i]);
    }

    /** What a run shows at one tick. */
    private static int[] seen(BlockStage x) {
        int[] seen = new int[23];
        for (int i = 0; i < 6; i++) seen[i] = x.who(0, i);
        for (int i = 0; i < 4; i++) seen[6 + i] = x.look(i, 0);
        for (int i = 0; i < 3; i++) {
            seen[10 + i] = x.scriptOf(0, 5 + i);
            seen[13 + i] = x.scriptOf(1, 5 + i);
            seen[16 + i] = x.said(i, 1);
        }
        seen[19] = x.item(0, 0);
        seen[20] = x.count(5);
        seen[21] = x.count(8);
        seen[22] = x.count(4);
        return seen;
    }

    /** A run in which much goes on: moves, things, a row, a repeat, calls, sayings, a refusal at tick 8. */
    private static BlockStage busy() {
        BlockStage x = new BlockStage();
        x.stage(4, 1);
        x.things(1, 0, 3);
        x.actor(0, 0, 1);
        Words.flagged(x, "MAKE(2) GO REPEAT(2)(TAKE LAY(0)(MINE) CALL2) GO GO GO");
        Words.script(x, 0, CALLED, 2, 0, "SAY(MINE) SAY(PART(1)(SUM(MINE)(-2)))");
        x.flag();
        return x;
    }

    private void back() {
        promise(21, "The RUN is as it was n TICKS ahead (0 and more): at which TICK it is", x -> {
            int[][] seen = new int[17][];
            BlockStage y = busy();
            for (int t = 0; t < 17; t++) {
                seen[t] = seen(y);
                y.tick(1);
            }
            is(seen[16][13], 2);
            for (int from = 0; from <= 16; from++) {
                for (int to = 0; to <= from; to++) {
                    BlockStage z = busy();
                    if (from > 0) z.tick(from);
                    is(z.back(from - to), to);
                    same(seen(z), seen[to]);
                    is(z.tick(1), to + 1);
                    is(z.back(1), to);
                    if (to < 16) z.tick(16 - to);
                    same(seen(z), seen[16]);
                }
            }
        });
        promise(21, "STATE", x -> {
            for (int n : new int[] {0, 1, -1, MIN, MAX}) is(x.back(n), STATE);
            x.flag();
            x.tick(3);
            x.stage(4, 4);
            is(x.back(0), STATE);
            is(x.back(1), STATE);
        });
        promise(21, "BAD: so many were not", x -> {
            x.flag();
            is(x.back(0), 0);
            for (int bad : new int[] {1, -1, 300, MIN, MAX}) is(x.back(bad), BAD);
            x.tick(5);
            for (int bad : new int[] {6, -1, MIN, MAX}) is(x.back(bad), BAD);
            is(x.count(4), 5);
            is(x.back(5), 0);
            is(x.back(1), BAD);
            for (int i = 0; i < 3; i++) x.tick(100);
            is(x.back(301), BAD);
            is(x.back(300), 0);
        });
    }

    private void who() {
        promise(22, "Of an ACTOR of the RUN (or THE BEGINNING)", x -> {
            x.actor(1, 2, 1);
            Words.flagged(x, "GO");
            is(x.who(0, 0), 1);
            x.flag();
            is(x.who(0, 0), 1);
            x.tick(1);
            is(x.who(0, 0), 2);
            x.number(9, 0);
            is(x.who(0, 0), 2);
            x.take(0);
            is(x.who(0, 0), 1);
        });
        promise(22, ": 0 x, 1 y, 2 HEADING, 3 VALUE, 4 BUMPED", x -> {
            x.actor(0, 0, 0);
            x.actor(2, 3, 2);
            Words.script(x, 1, FLAG, 0, 0, "GO GO GO SET(-9) TURN1 GO");
            int[] due = {2, 3, 2, 0, 0};
            for (int what = 0; what < 5; what++) is(x.who(1, what), due[what]);
            x.flag();
            x.tick(6);
            int[] then = {1, 3, 3, -9, 3};
            for (int what = 0; what < 5; what++) is(x.who(1, what), then[what]);
        });
        promise(22, "5 how many numbers its ROW has (-1: it is missing)", x -> {
            x.actor(0, 0, 0);
            is(x.who(0, 5), -1);
            Words.flagged(x, "MAKE(0) MAKE(1) MAKE(20) MAKE(21) MAKE(3)");
            x.flag();
            int[] due = {-1, 0, 1, 20, 20, 3};
            for (int t = 0; t < 6; t++) {
                is(x.who(0, 5), due[t]);
                x.tick(1);
            }
            x.back(6);
            is(x.who(0, 5), -1);
        });
        promise(22, "NO.", x -> {
            is(x.who(0, 0), NO);
            x.actor(0, 0, 0);
            for (int times = 0; times < 2; times++) {
                for (int bad : new int[] {-1, 1, 2, 3, MIN, MAX}) {
                    for (int what = 0; what < 6; what++) is(x.who(bad, what), NO);
                }
                for (int bad : new int[] {-1, 6, MIN, MAX}) is(x.who(0, bad), NO);
                x.flag();
            }
        });
    }

    private void item() {
        promise(23, "Number i of an ACTOR's ROW, so", x -> {
            x.actor(0, 0, 0);
            x.actor(0, 0, 0);
            Words.script(x, 0, FLAG, 0, 0, "MAKE(20) LAY(0)(-5) LAY(19)(7)");
            Words.script(x, 1, FLAG, 0, 0, "MAKE(1) LAY(0)(8)");
            x.flag();
            x.tick(3);
            is(x.item(0, 0), -5);
            is(x.item(0, 1), 0);
            is(x.item(0, 19), 7);
            is(x.item(1, 0), 8);
            x.back(1);
            is(x.item(0, 19), 0);
            x.stage(4, 4);
            is(x.item(0, 0), NO);
        });
        promise(23, "NO: none such", x -> {
            is(x.item(0, 0), NO);
            x.actor(0, 0, 0);
            x.actor(0, 0, 0);
            is(x.item(0, 0), NO);
            Words.flagged(x, "MAKE(20) MAKE(0)");
            x.flag();
            is(x.item(0, 0), NO);
            x.tick(1);
            for (int bad : new int[] {-1, 20, 21, MIN, MAX}) is(x.item(0, bad), NO);
            for (int bad : new int[] {-1, 1, 2, 3, MIN, MAX}) is(x.item(bad, 0), NO);
            is(x.item(0, 19), 0);
            x.tick(1);
            is(x.item(0, 0), NO);
            is(x.item(0, -1), NO);
        });
    }

    private void said() {
        promise(24, "Of what was SAID i-th in the RUN", x -> {
            x.actor(0, 0, 0);
            Words.flagged(x, "SAY(3) WAIT SAY(-4)");
            x.flag();
            x.tick(3);
            is(x.said(0, 1), 3);
            is(x.said(1, 1), -4);
            is(x.count(5), 2);
            x.flag();
            is(x.said(0, 1), NO);
            x.tick(1);
            is(x.said(0, 1), 3);
            is(x.said(1, 1), NO);
        });
        promise(24, "(the first 50 are kept)", x -> {
            x.actor(0, 0, 0);
            Words.script(x, 0, EVERY, 1, 0, "SET(SUM(MINE)(1))");
            Words.script(x, 0, EVERY, 1, 0, "SAY(MINE)");
            x.flag();
            x.tick(49);
            is(x.said(48, 1), 49);
            is(x.said(49, 1), NO);
            x.tick(1);
            is(x.said(49, 1), 50);
            x.tick(1);
            is(x.said(50, 1), NO);
            is(x.said(49, 1), 50);
            is(x.said(0, 1), 1);
            is(x.count(5), 51);
            x.tick(100);
            is(x.said(0, 1), 1);
            is(x.said(49, 1), 50);
            is(x.said(50, 1), NO);
            is(x.count(5), 151);
            x.back(102);
            is(x.said(48, 1), 49);
            is(x.said(49, 1), NO);
        });
        promise(24, ": 0 the ACTOR, 1 what, 2 at which TICK", x -> {
            for (int a = 0; a < 3; a++) x.actor(a, 0, 0);
            for (int a = 2; a >= 0; a--) Words.script(x, a, EVERY, 3, 0, "SAY(" + (a - 50) + ")");
            x.flag();
            x.tick(6);
            for (int i = 0; i < 6; i++) {
                is(x.said(i, 0), 2 - i % 3);
                is(x.said(i, 1), 2 - i % 3 - 50);
                is(x.said(i, 2), i < 3 ? 3 : 6);
            }
        });
        promise(24, "NO.", x -> {
            is(x.said(0, 0), NO);
            x.actor(0, 0, 0);
            Words.flagged(x, "SAY(3)");
            is(x.said(0, 0), NO);
            x.flag();
            is(x.said(0, 0), NO);
            x.tick(1);
            for (int bad : new int[] {-1, 1, 49, 50, MIN, MAX}) {
                for (int what = 0; what < 3; what++) is(x.said(bad, what), NO);
            }
            for (int bad : new int[] {-1, 3, MIN, MAX}) is(x.said(0, bad), NO);
            is(x.said(0, 0), 0);
            x.cue(0, 0, 0, 0);
            is(x.said(0, 0), NO);
        });
    }
}
