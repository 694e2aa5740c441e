/** What Term 3 says of steps, of where a script goes on, and of what the host refuses. */
final class StepEdges extends Edges {
    StepEdges(Doc doc) {
        super(doc);
    }

    void run() {
        moves();
        thingsAndValues();
        rows();
        repeat();
        whileAndIf();
        on();
        refusals();
    }

    /**
     * Of three actors, each with VALUE 3, a ROW of 0, 8 and 5 THINGS in its cell, one does an order. Just
     * these numbers of its own become so much more: 0 .. 5 as who() tells them, 6 and 7 those of its ROW,
     * 8 the THINGS in the cell where it was, 9 how often it SAID; what is the others' stays.
     */
    private void alone(String order, int... more) {
        for (int a = 0; a < 3; a++) {
            BlockStage x = new BlockStage();
            x.stage(4, 3);
            for (int b = 0; b < 3; b++) {
                x.actor(b, b, 1);
                x.things(b, b, 5);
                Words.script(x, b, FLAG, 0, 0, "SET(3) MAKE(2) LAY(1)(8)" + (a == b ? " " + order : ""));
            }
            x.flag();
            x.tick(3);
            int[] due = state(x);
            for (int i = 0; i < more.length; i += 2) due[a * 10 + more[i]] += more[i + 1];
            x.tick(1);
            int[] got = state(x);
            for (int i = 0; i < due.length; i++) is(got[i], due[i]);
            is(x.scriptOf(a, 5), 0);
            is(x.count(8), due[8] + due[18] + due[28]);
        }
    }

    private static int[] state(BlockStage x) {
        int[] state = new int[30];
        for (int a = 0; a < 3; a++) {
            for (int what = 0; what < 6; what++) state[10 * a + what] = x.who(a, what);
            for (int i = 0; i < 2; i++) state[10 * a + 6 + i] = x.item(a, i);
            state[10 * a + 8] = x.look(a, a);
            for (int i = 0; i < x.count(5); i++) state[10 * a + 9] += x.said(i, 0) == a ? 1 : 0;
        }
        return state;
    }

    private void moves() {
        term(3, "GO: if WALLED is 0 the ACTOR stands in the cell ahead, else it has BUMPED once more.", x -> {
            x.stage(3, 3);
            x.wall(2, 1, 1);
            x.actor(1, 1, 1);
            Words.flagged(x, "GO TURN1 GO GO TURN1 GO GO TURN1 GO GO GO TURN1 GO GO GO");
            x.flag();
            int[][] due = {{1, 1, 1}, {1, 1, 1}, {1, 2, 1}, {1, 2, 2}, {1, 2, 2}, {0, 2, 2}, {0, 2, 3},
                {0, 2, 3}, {0, 1, 3}, {0, 0, 3}, {0, 0, 4}, {0, 0, 4}, {1, 0, 4}, {2, 0, 4}, {2, 0, 5}};
            for (int[] d : due) {
                x.tick(1);
                is(x.who(0, 0), d[0]);
                is(x.who(0, 1), d[1]);
                is(x.who(0, 4), d[2]);
            }
            BlockStage y = new BlockStage();
            y.stage(1, 1);
            y.actor(0, 0, 0);
            Words.script(y, 0, EVERY, 1, 0, "GO");
            y.flag();
            y.tick(100);
            is(y.who(0, 4), 100);
            is(y.who(0, 0), 0);
            alone("GO", 0, 1);
            // An ACTOR is no WALL: each goes to where each other one stands.
            for (int way = 0; way < 9; way++) {
                if (way / 3 == way % 3) continue;
                BlockStage z = new BlockStage();
                z.stage(2, 2);
                for (int a = 0; a < 3; a++) z.actor(a == way / 3 ? 0 : 1, a == way / 3 || a == way % 3 ? 0 : 1, 1);
                Words.script(z, way / 3, FLAG, 0, 0, "GO");
                z.flag();
                z.tick(1);
                is(z.who(way / 3, 0), 1);
                is(z.who(way / 3, 4), 0);
                is(z.who(way % 3, 0), 1);
            }
        });
        term(3, "TURN: HEADING is n more, modulo 4.", x -> {
            for (int i = 0; i < 16; i++) {
                BlockStage y = new BlockStage();
                y.actor(0, 0, i / 4);
                Words.script(y, 0, EVERY, 1, 0, "TURN" + i % 4);
                y.flag();
                for (int t = 1; t <= 5; t++) {
                    y.tick(1);
                    is(y.who(0, 2), (i / 4 + t * (i % 4)) % 4);
                }
            }
            alone("TURN2", 2, 2);
        });
    }

    private void thingsAndValues() {
        term(3, "TAKE: if HERE is above 0: one THING less, VALUE 1 more.", x -> {
            x.things(0, 0, 2);
            x.actor(0, 0, 0);
            Words.script(x, 0, EVERY, 1, 0, "TAKE");
            x.flag();
            int[] value = {0, 1, 2, 2, 2};
            for (int t = 0; t < 5; t++) {
                is(x.who(0, 3), value[t]);
                is(x.look(0, 0), 2 - value[t]);
                is(x.count(8), 2 - value[t]);
                x.tick(1);
            }
            alone("TAKE", 3, 1, 8, -1);
        });
        term(3, "PUT: if VALUE is above 0 and HERE below 9: one THING more, VALUE 1 less.", x -> {
            x.things(0, 0, 7);
            x.actor(0, 0, 0);
            Words.flagged(x, "PUT SET(-1) PUT SET(1) PUT PUT SET(9) PUT PUT");
            x.flag();
            int[][] due = {{0, 7}, {-1, 7}, {-1, 7}, {1, 7}, {0, 8}, {0, 8}, {9, 8}, {8, 9}, {8, 9}};
            for (int[] d : due) {
                x.tick(1);
                is(x.who(0, 3), d[0]);
                is(x.look(0, 0), d[1]);
            }
            BlockStage y = new BlockStage();
            y.actor(0, 0, 0);
            Words.flagged(y, GREATEST + "PUT SET(SUM(MINE)(2)) PUT");
            y.flag();
            y.tick(64);
            is(y.who(0, 3), MAX - 1);
            is(y.look(0, 0), 1);
            y.tick(2);
            is(y.who(0, 3), MIN);
            is(y.look(0, 0), 1);
            alone("PUT", 3, -1, 8, 1);
        });
        term(3, "SET: VALUE is FIRST.", x -> {
            x.actor(0, 0, 0);
            Words.flagged(x, "SET(-99) SET(SUM(MINE)(MINE)) SET(MET) SET(99) SET");
            x.flag();
            int[] due = {-99, -198, 0, 99, 0};
            for (int d : due) {
                x.tick(1);
                is(x.who(0, 3), d);
            }
            alone("SET(-9)", 3, -12);
        });
        term(3, "SAY: FIRST is SAID.", x -> {
            x.actor(0, 0, 0);
            Words.flagged(x, LEAST + "SAY(MINE) SAY(SUM(MINE)(-1)) SAY(-99) SAY");
            x.flag();
            x.tick(68);
            int[] due = {MIN, MAX, -99, 0};
            for (int i = 0; i < 4; i++) is(x.said(i, 1), due[i]);
            is(x.count(5), 4);
            alone("SAY(4)", 9, 1);
        });
        term(3, "CALL: n is sent.", x -> {
            x.actor(0, 0, 0);
            for (int c = 0; c < 4; c++) Words.script(x, 0, CALLED, c, 0, "SAY(" + c + ")");
            Words.flagged(x, "CALL3 CALL2 CALL1 CALL0");
            Words.flagged(x, "WAIT CALL0 CALL1 CALL1");
            x.flag();
            x.tick(5);
            int[][] due = {{3, 2}, {0, 3}, {2, 3}, {1, 4}, {0, 5}, {1, 5}};
            for (int i = 0; i < due.length; i++) {
                is(x.said(i, 1), due[i][0]);
                is(x.said(i, 2), due[i][1]);
            }
            is(x.count(5), due.length);
            alone("CALL0");
        });
    }

    private void rows() {
        term(3, "MAKE: its ROW is FIRST numbers, all 0 (20, if FIRST is more).", x -> {
            for (int n : new int[] {0, 1, 19, 20, 21, 99}) {
                BlockStage y = new BlockStage();
                y.actor(0, 0, 0);
                Words.flagged(y, "MAKE(" + n + ")");
                y.flag();
                y.tick(1);
                is(y.who(0, 5), n > 20 ? 20 : n);
                for (int i = 0; i < 21; i++) is(y.item(0, i), i < n && i < 20 ? 0 : NO);
            }
            x.actor(0, 0, 0);
            Words.flagged(x, GREATEST + "MAKE(MINE) LAY(19)(1) LAY(0)(1) MAKE(1) MAKE(20)");
            x.flag();
            x.tick(66);
            is(x.who(0, 5), 20);
            is(x.item(0, 19), 1);
            x.tick(1);
            is(x.who(0, 5), 1);
            is(x.item(0, 0), 0);
            x.tick(1);
            is(x.item(0, 19), 0);
            alone("MAKE(3)", 5, 1, 7, -8);
        });
        term(3, "LAY: number FIRST of its ROW is SECOND (both are worked out ahead of what the host refuses).", x -> {
            x.actor(0, 0, 0);
            Words.flagged(x, "MAKE(2) LAY(1)(9) LAY(0)(ITEM(1)) LAY(2)(1)");
            x.flag();
            x.tick(3);
            is(x.item(0, 0), 9);
            is(x.item(0, 1), 9);
            x.tick(1);
            is(x.scriptOf(0, 7), -12);
            String[] words = {"LAY(0)(1)", "LAY(0)(PART(1)(0))", "LAY(PART(1)(0))(ITEM(0))", "LAY(ITEM(0))(PART(1)(0))",
                "MAKE(0) LAY(0)(1)", "MAKE(0) LAY(0)(PART(1)(0))", "MAKE(0) LAY(ITEM(0))(PART(1)(0))", "MAKE(1) LAY(-1)(1)"};
            int[] due = {-11, -15, -15, -11, -12, -15, -12, -12};
            for (int i = 0; i < words.length; i++) {
                BlockStage y = new BlockStage();
                y.actor(0, 0, 0);
                Words.flagged(y, words[i]);
                y.flag();
                y.tick(2);
                is(y.scriptOf(0, 7), due[i]);
            }
            alone("LAY(0)(4)", 6, 4);
        });
        term(3, "Behind each of these (and WAIT) it goes ON.", x -> {
            x.actor(0, 0, 0);
            int script = Words.flagged(x, "MAKE(1) GO TURN1 TAKE PUT SET SAY CALL0 WAIT LAY WAIT");
            x.flag();
            places(x, script, 2, 3, 4, 5, 6, 7, 8, 9, 10, 11, -1, -1);
            is(x.scriptOf(script, 7), 0);
            alone("WAIT");
        });
    }

    private void repeat() {
        term(3, "REPEAT: come to from above: TURNS are FIRST (0 at least, 99 at most)", x -> {
            int[][] turns = {{-99, 0}, {-1, 0}, {0, 0}, {1, 1}, {2, 2}, {98, 98}, {99, 99}};
            for (int[] t : turns) {
                BlockStage y = new BlockStage();
                y.actor(0, 0, 0);
                Words.flagged(y, "REPEAT(" + t[0] + ")(SET(SUM(MINE)(1))) SAY(MINE)");
                y.flag();
                y.tick(100);
                y.tick(100);
                is(y.said(0, 1), t[1]);
                is(y.said(0, 2), 2 * t[1] + 2);
            }
            String[] far = {"SUM(99)(1)", "MINE", "SUM(MINE)(1)"};
            int[] due = {99, 99, 0};
            for (int i = 0; i < 3; i++) {
                BlockStage y = new BlockStage();
                y.actor(0, 0, 0);
                Words.flagged(y, GREATEST + "REPEAT(" + far[i] + ") SAY(7)");
                y.flag();
                y.tick(100);
                y.tick(100);
                is(y.said(0, 2), 63 + due[i] + 2);
            }
            // It may be block 0 that is come to from above, from what has it in its NEXT or its BODY.
            for (int hole = 0; hole < 2; hole++) {
                BlockStage y = new BlockStage();
                y.actor(0, 0, 0);
                Words.blocks(y, "REPEAT(3)(SAY)");
                int above = Words.flagged(y, "IF(NOT)");
                y.join(3, hole, 0);
                y.flag();
                places(y, above, 0, 2, 0, 2, 0, 2, 0, -1);
            }
            // Come to from above once more, inside another REPEAT, its TURNS are worked out anew.
            x.actor(0, 0, 0);
            int script = Words.flagged(x, "REPEAT(2)(REPEAT(SUM(MINE)(1))(SET(1)))");
            x.flag();
            places(x, script, 2, 6, 2, 0, 2, 6, 2, 6, 2, 0, -1);
        });
        term(3, "come to at all: if TURNS are left there is one less, and it goes into BODY", x -> {
            x.actor(0, 0, 0);
            int script = Words.flagged(x, "REPEAT(PART(2)(SUM(1)(MINE)))(SET(-1)) WAIT");
            x.flag();
            // FIRST is not worked out when it comes back: PART by 0 would be refused then.
            places(x, script, 6, 0, 6, 0, 8, -1);
            is(x.scriptOf(script, 7), 0);
        });
        term(3, "(if that is empty it stays at REPEAT); else ON.", x -> {
            x.actor(0, 0, 0);
            int script = Words.flagged(x, "REPEAT(3) WAIT");
            x.flag();
            places(x, script, 0, 0, 0, 2, -1);
            int other = Words.flagged(x, "REPEAT WAIT");
            x.flag();
            places(x, other, 4, -1);
        });
    }

    private void whileAndIf() {
        term(3, "WHILE: if FIRST is not 0 into BODY (empty: it stays), else ON.", x -> {
            x.stage(3, 1);
            x.actor(0, 0, 1);
            int script = Words.flagged(x, "WHILE(NOT(WALLED))(GO) WAIT");
            x.flag();
            places(x, script, 3, 0, 3, 0, 4, -1);
            is(x.who(0, 0), 2);
            x.take(3);
            x.flag();
            places(x, script, 0, 0, 0);
            x.tick(100);
            is(x.scriptOf(script, 6), 0);
            x.take(1);
            x.flag();
            places(x, script, 4, -1);
        });
        term(3, "IF: into BODY (if that is empty: ON) if FIRST is not 0", x -> {
            x.actor(0, 0, 0);
            int script = Words.flagged(x, "IF(NOT)(SET(1) SET(2))(WAIT) WAIT");
            x.flag();
            places(x, script, 2, 4, 7, -1);
            x.take(2);
            x.flag();
            places(x, script, 7, -1);
        });
        term(3, "else into OTHER (empty: ON).", x -> {
            x.actor(0, 0, 0);
            int script = Words.flagged(x, "IF(MET)(WAIT)(SET(1) SET(2)) WAIT");
            x.flag();
            places(x, script, 3, 5, 7, -1);
            x.take(3);
            x.flag();
            places(x, script, 7, -1);
            x.take(1);
            x.flag();
            places(x, script, 7, -1);
        });
    }

    private void on() {
        term(3, "ON: to what is in NEXT.", x -> {
            x.actor(0, 0, 0);
            int script = Words.flagged(x, "WAIT REPEAT() IF() WHILE() WAIT");
            x.flag();
            places(x, script, 1, 2, 3, 4, -1);
            // What is in NEXT is come to from above, a REPEAT behind a block of a body too.
            int other = Words.flagged(x, "REPEAT(2)(WAIT REPEAT(1))");
            x.flag();
            places(x, other, 7, 8, 8, 5, 7, 8, 8, 5, -1);
        });
        term(3, "If that is empty: to the SHELL in whose BODY or OTHER the BLOCK lies, first or by NEXTS:", x -> {
            x.actor(0, 0, 0);
            int script = Words.flagged(x, "REPEAT(1)(WAIT WAIT WAIT) WAIT");
            x.flag();
            places(x, script, 2, 3, 4, 0, 5, -1);
            int other = Words.flagged(x, "REPEAT(1)(IF()()(WAIT WAIT))");
            x.flag();
            places(x, other, 8, 9, 10, 6, -1);
        });
        term(3, "in whose BODY or OTHER the BLOCK lies, first or by NEXTS", x -> {
            // However deep it lies, and by however many NEXTS: one STEP goes all the way.
            for (int hole = 0; hole < 4; hole += 2) {
                BlockStage y = new BlockStage();
                y.actor(0, 0, 0);
                int script = Words.flagged(y, "REPEAT(2)");
                for (int b = 2; b < 30; b++) {
                    is(y.block(hole == 0 || b == 29 ? 7 : 12, 0), b);
                    is(y.join(b == 2 ? 0 : b - 1, b == 2 ? 1 : hole, b), 1);
                }
                y.flag();
                for (int turn = 0; turn < 2; turn++) {
                    for (int b = 2; b < 30; b++) places(y, script, b);
                    places(y, script, 0);
                }
                places(y, script, -1);
            }
        });
        term(3, "to REPEAT, WHILE (not from above)", x -> {
            x.actor(0, 0, 0);
            int script = Words.flagged(x, "REPEAT(2)(WAIT) WAIT");
            x.flag();
            places(x, script, 2, 0, 2, 0, 3, -1);
            int other = Words.flagged(x, "WHILE(LESS(MINE)(2))(SET(SUM(MINE)(1))) WAIT");
            x.flag();
            places(x, other, 8, 4, 8, 4, 12, -1);
        });
        term(3, "from IF on ON", x -> {
            x.actor(0, 0, 0);
            int script = Words.flagged(x, "REPEAT(1)(IF(NOT)(IF()()(WAIT)))");
            x.flag();
            places(x, script, 2, 4, 5, 0, -1);
            int other = Words.flagged(x, "IF(NOT)(IF()()(WAIT)) WAIT");
            x.flag();
            places(x, other, 8, 9, 10, -1);
            int third = Words.flagged(x, "REPEAT(1)(IF()()(REPEAT()) WAIT)");
            x.flag();
            places(x, third, 13, 14, 15, 11, -1);
        });
        term(3, "if there is no such SHELL the SCRIPT sleeps.", x -> {
            x.actor(0, 0, 0);
            int script = Words.flagged(x, "WAIT");
            int other = Words.flagged(x, "IF()()(WAIT IF()()(WAIT))");
            x.flag();
            places(x, script, -1, -1);
            x.flag();
            places(x, other, 2, 3, 4, -1);
            // It wakes again, at its TOP, when its CAP is hit.
            int third = Words.script(x, 0, EVERY, 3, 0, "WAIT WAIT");
            x.flag();
            places(x, third, -1, -1, 6, -1, -1, 6, -1);
        });
    }

    /** A script that is lit by the words, behind n ticks; what it was refused for. */
    private void lit(String words, int n, int refusal) {
        BlockStage x = new BlockStage();
        x.actor(0, 0, 1);
        Words.flagged(x, words);
        x.flag();
        x.tick(n - 1 > 0 ? n - 1 : 1);
        if (n > 1) is(x.scriptOf(0, 5), 1);
        x.back(n - 1 > 0 ? 0 : 1);
        x.tick(1);
        is(x.scriptOf(0, 5), 2);
        is(x.scriptOf(0, 7), refusal);
    }

    private void refusals() {
        term(3, "What the host refuses in a STEP ends that STEP with nothing done", x -> {
            x.actor(0, 0, 0);
            Words.flagged(x, "SET(5) MAKE(1) LAY(0)(3) WAIT SET(SUM(1)(PART(1)(0)))");
            Words.flagged(x, "WAIT WAIT MAKE(-1)");
            Words.flagged(x, "WAIT WAIT LAY(1)(9)");
            Words.flagged(x, "WAIT WAIT SAY(ITEM(1))");
            x.flag();
            x.tick(9);
            for (int s = 0; s < 4; s++) is(x.scriptOf(s, 5), 2);
            is(x.who(0, 3), 5);
            is(x.who(0, 5), 1);
            is(x.item(0, 0), 3);
            is(x.count(5), 0);
        });
        term(3, "the SCRIPT is LIT, and sleeps for the rest of the RUN:", x -> {
            x.actor(0, 0, 1);
            Words.script(x, 0, EVERY, 1, 1, "REPEAT(PART(1)(0))(WAIT) GO");
            Words.script(x, 0, EVERY, 1, 0, "WHILE(LESS(ITEM(0))(1))(GO) GO");
            Words.script(x, 0, EVERY, 2, 1, "IF(LESS(MINE)(ITEM(0)))(GO)(GO) GO");
            x.flag();
            x.tick(100);
            int[] at = {0, 6, 13};
            for (int s = 0; s < 3; s++) {
                is(x.scriptOf(s, 5), 2);
                is(x.scriptOf(s, 6), at[s]);
            }
            is(x.who(0, 0), 0);
            x.back(99);
            is(x.scriptOf(0, 5), 2);
            is(x.scriptOf(2, 5), 0);
            x.flag();
            is(x.scriptOf(0, 5), 0);
        });
        term(3, "-11 its ROW is missing", x -> {
            lit("SAY(ITEM(0))", 1, -11);
            lit("SAY(ITEM(-1))", 1, -11);
            lit("LAY(0)(0)", 1, -11);
            lit("LAY(-1)(0)", 1, -11);
            lit("WAIT SET(SUM(ITEM(99))(1))", 2, -11);
        });
        term(3, "-12 its ROW has no such number", x -> {
            lit("MAKE(0) SAY(ITEM(0))", 2, -12);
            lit("MAKE(1) SAY(ITEM(1))", 2, -12);
            lit("MAKE(1) SAY(ITEM(-1))", 2, -12);
            lit("MAKE(99) SAY(ITEM(20))", 2, -12);
            lit("MAKE(99) LAY(20)(0)", 2, -12);
            lit("MAKE(99) LAY(-1)(0)", 2, -12);
            lit(LEAST + "MAKE(1) LAY(MINE)(0)", 66, -12);
            lit(GREATEST + "MAKE(1) LAY(MINE)(0)", 65, -12);
        });
        term(3, "-14 a ROW of fewer than 0", x -> {
            lit("MAKE(-1)", 1, -14);
            lit("MAKE(-99)", 1, -14);
            lit(LEAST + "MAKE(MINE)", 65, -14);
            x.actor(0, 0, 0);
            Words.flagged(x, "MAKE(2) MAKE(-1)");
            x.flag();
            x.tick(2);
            is(x.scriptOf(0, 7), -14);
            is(x.who(0, 5), 2);
        });
        term(3, "-15 PART by 0.", x -> {
            lit("SAY(PART(1)(0))", 1, -15);
            lit("SAY(PART(0)(0))", 1, -15);
            lit("SAY(PART(1))", 1, -15);
            lit("SAY(PART)", 1, -15);
            lit("MAKE(PART(1)(HERE))", 1, -15);
            lit("SET(1) WHILE(LESS(PART(1)(MET))(0))", 2, -15);
        });
    }
}
