/** What Term 2 says rounds are worth. */
final class RoundEdges extends Edges {
    RoundEdges(Doc doc) {
        super(doc);
    }

    void run() {
        emptyAndOrder();
        numbers();
        items();
        parts();
        sharps();
    }

    /** What a round is worth to an actor of which VALUE is the least int, behind 64 ticks. */
    private int worthAtLeast(String round) {
        BlockStage x = new BlockStage();
        x.actor(0, 0, 0);
        int script = Words.flagged(x, LEAST + "SAY(" + round + ")");
        x.flag();
        x.tick(65);
        return x.scriptOf(script, 5) == 2 ? x.scriptOf(script, 7) : x.said(0, 1);
    }

    private void emptyAndOrder() {
        term(2, "What a ROUND is worth (an empty HOLE: 0", x -> {
            x.actor(0, 0, 0);
            is(worth(x, "SUM(5)"), 5);
            is(worth(x, "SUM()(5)"), 5);
            is(worth(x, "SUM"), 0);
            is(worth(x, "LESS()(1)"), 1);
            is(worth(x, "LESS"), 0);
            is(worth(x, "NOT"), 1);
            BlockStage y = new BlockStage();
            y.actor(0, 0, 0);
            is(worth(y, "PART()(5)"), 0);
            is(worth(y, "PART(5)"), -15);
            is(worth(y, "ITEM"), -11);
            is(worth(y, ""), 0);
        });
        term(2, "What a ROUND is worth", x -> {
            // All blocks in one, as deep as they go: by FIRST, by SECOND, by each in its turn.
            for (int way = 0; way < 3; way++) {
                StringBuilder deep = new StringBuilder();
                StringBuilder ends = new StringBuilder();
                for (int i = 0; i < 28; i++) {
                    deep.append(way == 0 || way == 2 && i % 2 == 0 ? "SUM(" : "SUM()(");
                    ends.append(')');
                }
                BlockStage y = new BlockStage();
                y.actor(0, 0, 0);
                is(worth(y, deep + "-7" + ends), -7);
                is(y.count(0), 30);
            }
            x.actor(0, 0, 0);
            is(worth(x, "NOT(".repeat(27) + "NOT" + ")".repeat(27)), 0);
        });
        term(2, "FIRST is worked out ahead of SECOND", x -> {
            // What is refused first is told: -11 of ITEM without a ROW, -15 of PART by 0.
            for (String round : new String[] {"SUM", "PART", "LESS"}) {
                BlockStage y = new BlockStage();
                y.actor(0, 0, 0);
                is(worth(y, round + "(ITEM(0))(PART(1)(0))"), -11);
                is(worth(y, round + "(PART(1)(0))(ITEM(0))"), -15);
                is(worth(y, round + "(1)(ITEM(0))"), -11);
            }
        });
        term(2, "sums wrap)", x -> {
            is(worthAtLeast("SUM(MINE)(-1)"), MAX);
            is(worthAtLeast("SUM(-1)(MINE)"), MAX);
            is(worthAtLeast("SUM(MINE)(MINE)"), 0);
            is(worthAtLeast("SUM(SUM(MINE)(-1))(1)"), MIN);
            is(worthAtLeast("SUM(SUM(MINE)(-1))(SUM(MINE)(-1))"), -2);
            is(worthAtLeast("SUM(MINE)(-99)"), MAX - 98);
        });
    }

    private void numbers() {
        term(2, "NUMBER n. ", x -> {
            x.actor(0, 0, 0);
            is(worth(x, "-99"), -99);
            is(worth(x, "99"), 99);
            is(worth(x, "0"), 0);
        });
        term(2, "MINE the ACTOR's VALUE.", x -> {
            x.actor(0, 0, 0);
            x.actor(0, 0, 0);
            Words.script(x, 1, FLAG, 0, 0, "SET(-7) SAY(MINE)");
            Words.script(x, 0, FLAG, 0, 0, "WAIT SAY(MINE)");
            x.flag();
            x.tick(2);
            is(x.said(0, 1), -7);
            is(x.said(1, 1), 0);
            is(worthAtLeast("MINE"), MIN);
        });
        term(2, "SUM both together.", x -> {
            x.actor(0, 0, 0);
            is(worth(x, "SUM(99)(99)"), 198);
            is(worth(x, "SUM(-99)(-99)"), -198);
            is(worth(x, "SUM(SUM(1)(2))(SUM(3)(-6))"), 0);
        });
        term(2, "HERE the THINGS in its cell.", x -> {
            x.things(1, 0, 9);
            x.things(0, 1, 1);
            x.actor(1, 0, 0);
            is(worth(x, "HERE"), 9);
            x.actor(0, 1, 0);
            Words.script(x, 1, FLAG, 0, 0, "SAY(HERE) TAKE SAY(HERE)");
            x.flag();
            x.tick(3);
            is(x.said(0, 1), 1);
            is(x.said(1, 1), 0);
        });
    }

    private void items() {
        term(2, "ITEM number FIRST of its ROW.", x -> {
            x.actor(0, 0, 0);
            Words.flagged(x, "MAKE(99) LAY(0)(5) LAY(19)(6) SAY(ITEM(0)) SAY(ITEM(19)) SAY(ITEM(1)) SAY(ITEM(20))");
            x.flag();
            x.tick(7);
            is(x.said(0, 1), 5);
            is(x.said(1, 1), 6);
            is(x.said(2, 1), 0);
            is(x.count(5), 3);
            is(x.scriptOf(0, 7), -12);
            for (String far : new String[] {"MINE", "SUM(MINE)(-1)"}) {
                BlockStage y = new BlockStage();
                y.actor(0, 0, 0);
                Words.flagged(y, LEAST + "MAKE(20) SAY(ITEM(" + far + "))");
                y.flag();
                y.tick(66);
                is(y.scriptOf(0, 7), -12);
            }
        });
    }

    private void parts() {
        term(2, "PART FIRST by SECOND, cut towards 0.", x -> {
            x.actor(0, 0, 0);
            is(worth(x, "PART(7)(2)"), 3);
            is(worth(x, "PART(-7)(2)"), -3);
            is(worth(x, "PART(7)(-2)"), -3);
            is(worth(x, "PART(-7)(-2)"), 3);
            is(worth(x, "PART(1)(99)"), 0);
            is(worth(x, "PART(-1)(99)"), 0);
            is(worthAtLeast("PART(MINE)(-1)"), MIN);
            is(worthAtLeast("PART(MINE)(1)"), MIN);
            is(worthAtLeast("PART(MINE)(MINE)"), 1);
            is(worthAtLeast("PART(MINE)(2)"), -(1 << 30));
            is(worthAtLeast("PART(SUM(MINE)(-1))(-1)"), -MAX);
            is(worthAtLeast("PART(MINE)(0)"), -15);
        });
    }

    private void sharps() {
        term(2, "WALLED 1 if the cell ahead is a WALL, or there is none, else 0.", x -> {
            x.stage(3, 1);
            x.wall(2, 0, 1);
            x.actor(1, 0, 0);
            Words.flagged(x, "SAY(WALLED) TURN1 SAY(WALLED) TURN1 SAY(WALLED) TURN1 SAY(WALLED)");
            x.flag();
            x.tick(7);
            int[] due = {1, 1, 1, 0};
            for (int i = 0; i < 4; i++) is(x.said(i, 1), due[i]);
            BlockStage y = new BlockStage();
            y.stage(8, 8);
            y.actor(7, 7, 0);
            Words.flagged(y, "SAY(WALLED) TURN1 SAY(WALLED) TURN1 SAY(WALLED) TURN1 SAY(WALLED)");
            y.flag();
            y.tick(7);
            int[] corner = {0, 1, 1, 0};
            for (int i = 0; i < 4; i++) is(y.said(i, 1), corner[i]);
        });
        term(2, "LESS 1 if FIRST is less than SECOND, else 0.", x -> {
            x.actor(0, 0, 0);
            is(worth(x, "LESS(1)(2)"), 1);
            is(worth(x, "LESS(2)(2)"), 0);
            is(worth(x, "LESS(3)(2)"), 0);
            is(worth(x, "LESS(-2)(-1)"), 1);
            // A difference of the two would wrap here.
            is(worthAtLeast("LESS(MINE)(SUM(MINE)(-1))"), 1);
            is(worthAtLeast("LESS(SUM(MINE)(-1))(MINE)"), 0);
            is(worthAtLeast("LESS(MINE)(1)"), 1);
            is(worthAtLeast("LESS(1)(MINE)"), 0);
        });
        term(2, "NOT 1 if FIRST is 0, else 0.", x -> {
            x.actor(0, 0, 0);
            is(worth(x, "NOT(LESS(2)(1))"), 1);
            is(worth(x, "NOT(LESS(1)(2))"), 0);
            is(worth(x, "NOT(NOT(MET))"), 0);
            is(worth(x, "NOT"), 1);
        });
        term(2, "MET 1 if another ACTOR stands in its cell, else 0.", x -> {
            x.stage(2, 2);
            x.actor(0, 0, 1);
            is(worth(x, "MET"), 0);
            x.actor(1, 0, 0);
            x.actor(0, 1, 0);
            Words.flagged(x, "GO SAY(MET)");
            Words.script(x, 1, FLAG, 0, 0, "SAY(MET) SAY(MET)");
            Words.script(x, 2, FLAG, 0, 0, "SAY(MET) SAY(MET)");
            x.flag();
            x.tick(2);
            // At tick 1 actor 0 has gone to actor 1 before that one says; actor 2 stands alone.
            int[][] due = {{1, 1}, {2, 0}, {0, 1}, {1, 1}, {2, 0}};
            for (int i = 0; i < due.length; i++) {
                is(x.said(i, 0), due[i][0]);
                is(x.said(i, 1), due[i][1]);
            }
        });
    }
}
