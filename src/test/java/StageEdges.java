/** Promises 1 to 8 and Term 1: the stage. */
final class StageEdges extends Edges {
    private static final int[] OUTSIDE_OF_FOUR = {-1, 4, 5, 8, MIN, MAX};

    StageEdges(Doc doc) {
        super(doc);
    }

    void run() {
        termCells();
        termActors();
        newObject();
        stage();
        wall();
        things();
        actor();
        layItems();
        layRefused();
        keep();
        use();
    }

    /** All cells in the order of the rows, as they should be. */
    private void looks(BlockStage x, int w, int h, int... due) {
        for (int i = 0; i < w * h; i++) is(x.look(i % w, i / w), due[i]);
        is(x.look(w, 0), -5);
        is(x.look(0, h), -5);
    }

    private void termCells() {
        term(1, "A STAGE: W by H cells (1 .. 8 each)", x -> {
            for (int w = -1; w <= 10; w++) {
                for (int h = -1; h <= 10; h++) is(x.stage(w, h), w >= 1 && w <= 8 && h >= 1 && h <= 8 ? 1 : BAD);
            }
            is(x.stage(8, 8), 1);
            is(x.look(7, 7), 0);
            is(x.look(8, 7), -5);
            is(x.look(7, 8), -5);
            is(x.stage(1, 1), 1);
            is(x.look(0, 0), 0);
            is(x.look(1, 0), -5);
            is(x.look(0, 1), -5);
        });
        term(1, "of each whether it is a WALL", x -> {
            x.stage(8, 8);
            for (int i = 0; i < 64; i += 3) x.wall(i % 8, i / 8, 1);
            for (int i = 0; i < 64; i++) is(x.look(i % 8, i / 8), i % 3 == 0 ? -1 : 0);
        });
        term(1, "else how many THINGS (0 .. 9) lie there", x -> {
            x.stage(8, 8);
            for (int i = 0; i < 64; i++) is(x.things(i % 8, i / 8, i % 10), 0);
            for (int i = 0; i < 64; i++) is(x.look(i % 8, i / 8), i % 10);
            is(x.things(0, 0, 9), 0);
            is(x.things(0, 0, 10), BAD);
            is(x.things(0, 0, -1), BAD);
            is(x.look(0, 0), 9);
        });
        term(1, "What is told is THE BEGINNING.", x -> {
            x.actor(1, 1, 1);
            x.things(1, 1, 5);
            Words.flagged(x, "TAKE GO");
            x.flag();
            x.tick(2);
            is(x.look(1, 1), 4);
            is(x.who(0, 0), 2);
            x.cue(0, 0, 0, 0);
            is(x.look(1, 1), 5);
            is(x.who(0, 0), 1);
            is(x.who(0, 3), 0);
        });
        term(1, "KEPT STAGES 0 .. 3, as they come: THE BEGINNING as it was then.", x -> {
            for (int k = 0; k < 4; k++) {
                x.stage(k + 1, 1);
                x.things(k, 0, k + 2);
                x.actor(k, 0, k);
                is(x.keep(), k);
            }
            is(x.keep(), FULL);
            x.stage(8, 8);
            for (int k = 3; k >= 0; k--) {
                is(x.use(k), 1);
                is(x.look(k, 0), k + 2);
                is(x.look(k + 1, 0), -5);
                is(x.who(0, 2), k);
                is(x.count(2), 1);
            }
        });
    }

    private void termActors() {
        term(1, "ACTORS 0 .. 2, as they come", x -> {
            is(x.who(0, 0), NO);
            for (int a = 0; a < 3; a++) {
                is(x.actor(a, 3 - a, a), a);
                is(x.who(a, 0), a);
                is(x.who(a + 1, 0), NO);
            }
            is(x.actor(0, 0, 0), FULL);
            is(x.count(2), 3);
        });
        term(1, "each stands in a cell (x from the west, y from the north, both from 0 on) that is no WALL", x -> {
            x.stage(3, 2);
            is(x.actor(0, 0, 0), 0);
            is(x.actor(2, 1, 1), 1);
            is(x.who(0, 0), 0);
            is(x.who(0, 1), 0);
            is(x.who(1, 0), 2);
            is(x.who(1, 1), 1);
            is(x.actor(3, 1, 0), NONE);
            is(x.actor(2, 2, 0), NONE);
            is(x.actor(-1, 0, 0), NONE);
            is(x.actor(0, -1, 0), NONE);
            x.wall(1, 1, 1);
            is(x.actor(1, 1, 0), STATE);
            // From the west: east makes x more; from the north: south makes y more.
            Words.flagged(x, "TURN1 GO TURN1 GO");
            x.flag();
            x.tick(4);
            is(x.who(0, 0), 1);
            is(x.who(0, 1), 0);
            is(x.who(0, 4), 1);
        });
        term(1, "has a HEADING (0 north, 1 east, 2 south, 3 west)", x -> {
            int[][] goal = {{1, 0}, {2, 1}, {1, 2}, {0, 1}};
            for (int heading = 0; heading < 4; heading++) {
                BlockStage y = new BlockStage();
                is(y.actor(1, 1, heading), 0);
                is(y.who(0, 2), heading);
                Words.flagged(y, "GO");
                y.flag();
                y.tick(1);
                is(y.who(0, 0), goal[heading][0]);
                is(y.who(0, 1), goal[heading][1]);
            }
        });
        term(1, "a VALUE (an int that wraps; 0 at first)", x -> {
            x.actor(0, 0, 0);
            x.things(0, 0, 2);
            is(x.who(0, 3), 0);
            Words.flagged(x, GREATEST + "TAKE TAKE");
            x.flag();
            is(x.who(0, 3), 0);
            x.tick(63);
            is(x.who(0, 3), MAX);
            x.tick(1);
            is(x.who(0, 3), MIN);
            x.tick(1);
            is(x.who(0, 3), MIN + 1);
            is(x.look(0, 0), 0);
        });
        term(1, "and a ROW of ints (missing at first).", x -> {
            x.actor(0, 0, 0);
            is(x.who(0, 5), -1);
            is(x.item(0, 0), NO);
            Words.flagged(x, LEAST + "MAKE(1) LAY(0)(MINE)");
            x.flag();
            is(x.who(0, 5), -1);
            x.tick(66);
            is(x.who(0, 5), 1);
            is(x.item(0, 0), MIN);
        });
    }

    private void newObject() {
        promise(1, "A STAGE of 4 by 4", x -> {
            is(x.look(0, 0), 0);
            is(x.look(3, 3), 0);
            is(x.look(3, 0), 0);
            is(x.look(0, 3), 0);
            for (int out : OUTSIDE_OF_FOUR) {
                is(x.look(out, 0), -5);
                is(x.look(0, out), -5);
            }
        });
        promise(1, "without anything", x -> {
            for (int i = 0; i < 16; i++) is(x.look(i % 4, i / 4), 0);
            is(x.count(8), 0);
            is(x.count(2), 0);
            is(x.who(0, 0), NO);
            is(x.count(3), 0);
            is(x.use(0), NONE);
        });
        promise(1, "no BLOCKS", x -> {
            is(x.count(0), 0);
            is(x.of(0, 0), NO);
            is(x.hole(0, 0), -5);
            is(x.take(0), NONE);
            is(x.count(1), 0);
            is(x.scriptOf(0, 0), NO);
            is(x.block(0, 0), 0);
        });
        promise(1, "no RUN", x -> {
            is(x.count(4), -1);
            is(x.tick(1), STATE);
            is(x.back(0), STATE);
            is(x.said(0, 0), NO);
            is(x.count(5), 0);
        });
        promise(1, "no WISH", x -> {
            is(x.count(7), 0);
            is(x.count(6), 0);
            x.keep();
            is(x.mark(1), STATE);
            is(x.least(1), STATE);
            is(x.fails(0), STATE);
            is(x.hint(0, 0), -5);
        });
    }

    private void stage() {
        promise(2, "THE BEGINNING is w by h cells", x -> {
            is(x.stage(3, 2), 1);
            looks(x, 3, 2, 0, 0, 0, 0, 0, 0);
            is(x.stage(2, 3), 1);
            looks(x, 2, 3, 0, 0, 0, 0, 0, 0);
            is(x.stage(8, 1), 1);
            looks(x, 8, 1, 0, 0, 0, 0, 0, 0, 0, 0);
            is(x.stage(1, 8), 1);
            looks(x, 1, 8, 0, 0, 0, 0, 0, 0, 0, 0);
        });
        promise(2, "without anything: 1", x -> {
            for (int a = 0; a < 3; a++) x.actor(a, 0, a);
            x.things(3, 3, 9);
            x.wall(2, 2, 1);
            is(x.stage(4, 4), 1);
            for (int i = 0; i < 16; i++) is(x.look(i % 4, i / 4), 0);
            is(x.count(2), 0);
            is(x.count(8), 0);
            is(x.who(0, 0), NO);
            is(x.actor(3, 3, 0), 0);
        });
        promise(2, "BAD", x -> {
            x.things(3, 3, 9);
            for (int bad : new int[] {0, -1, 9, 10, MIN, MAX, 256 + 4}) {
                is(x.stage(bad, 4), BAD);
                is(x.stage(4, bad), BAD);
                is(x.stage(bad, bad), BAD);
            }
            is(x.look(3, 3), 9);
        });
    }

    private void wall() {
        promise(3, "A cell is a WALL (1) or not (0)", x -> {
            x.wall(3, 0, 1);
            is(x.look(3, 0), -1);
            is(x.look(0, 3), 0);
            x.wall(3, 0, 1);
            is(x.look(3, 0), -1);
            x.wall(3, 0, 0);
            is(x.look(3, 0), 0);
            is(x.things(3, 0, 1), 0);
        });
        promise(3, "what it was", x -> {
            is(x.wall(0, 0, 0), 0);
            is(x.wall(0, 0, 1), 0);
            is(x.wall(0, 0, 1), 1);
            is(x.wall(0, 0, 0), 1);
            is(x.wall(0, 0, 0), 0);
        });
        promise(3, "NONE", x -> {
            for (int out : OUTSIDE_OF_FOUR) {
                is(x.wall(out, 0, 1), NONE);
                is(x.wall(0, out, 0), NONE);
            }
            x.stage(8, 1);
            is(x.wall(7, 0, 1), 0);
            is(x.wall(7, 1, 1), NONE);
            is(x.wall(8, 0, 1), NONE);
        });
        promise(3, "BAD", x -> {
            for (int bad : new int[] {-1, 2, MIN, MAX}) is(x.wall(1, 1, bad), BAD);
            is(x.look(1, 1), 0);
        });
        promise(3, "STATE (also with 0)", x -> {
            x.actor(1, 1, 0);
            x.things(2, 2, 1);
            is(x.wall(1, 1, 0), STATE);
            is(x.wall(2, 2, 0), STATE);
            is(x.look(2, 2), 1);
        });
        promise(3, "an ACTOR stands there", x -> {
            for (int a = 0; a < 3; a++) x.actor(a, 3, 0);
            for (int a = 0; a < 3; a++) is(x.wall(a, 3, 1), STATE);
            is(x.wall(3, 3, 1), 0);
            is(x.wall(0, 2, 1), 0);
            is(x.look(0, 3), 0);
        });
        promise(3, "or THINGS lie there", x -> {
            x.things(0, 3, 1);
            x.things(3, 0, 9);
            is(x.wall(0, 3, 1), STATE);
            is(x.wall(3, 0, 1), STATE);
            is(x.look(3, 0), 9);
            x.things(3, 0, 0);
            is(x.wall(3, 0, 1), 0);
        });
    }

    private void things() {
        promise(4, "THINGS in a cell", x -> {
            x.things(3, 1, 9);
            is(x.look(3, 1), 9);
            is(x.look(1, 3), 0);
            x.things(3, 1, 0);
            is(x.look(3, 1), 0);
            x.actor(2, 2, 0);
            is(x.things(2, 2, 4), 0);
            is(x.look(2, 2), 4);
            is(x.things(2, 2, 0), 4);
            is(x.look(2, 2), 0);
            is(x.who(0, 0), 2);
        });
        promise(4, "how many there were", x -> {
            is(x.things(0, 0, 9), 0);
            is(x.things(0, 0, 1), 9);
            is(x.things(0, 0, 1), 1);
            is(x.things(0, 0, 0), 1);
            is(x.things(0, 0, 0), 0);
        });
        promise(4, "NONE", x -> {
            for (int out : OUTSIDE_OF_FOUR) {
                is(x.things(out, 0, 1), NONE);
                is(x.things(0, out, 1), NONE);
            }
            is(x.count(8), 0);
        });
        promise(4, "BAD", x -> {
            x.things(1, 1, 3);
            for (int bad : new int[] {-1, 10, MIN, MAX}) is(x.things(1, 1, bad), BAD);
            is(x.look(1, 1), 3);
        });
        promise(4, "STATE: it is a WALL", x -> {
            x.wall(1, 1, 1);
            for (int n = 0; n < 10; n++) is(x.things(1, 1, n), STATE);
            is(x.look(1, 1), -1);
            x.wall(1, 1, 0);
            is(x.things(1, 1, 1), 0);
        });
    }

    private void actor() {
        promise(5, "One more ACTOR: its number", x -> {
            is(x.actor(3, 1, 2), 0);
            is(x.actor(3, 1, 2), 1);
            is(x.actor(0, 0, 0), 2);
            int[] due = {3, 1, 2, 0, 0, -1};
            for (int what = 0; what < 6; what++) is(x.who(1, what), due[what]);
            x.stage(4, 4);
            is(x.actor(0, 0, 0), 0);
        });
        promise(5, "NONE: the cell", x -> {
            for (int out : OUTSIDE_OF_FOUR) {
                is(x.actor(out, 0, 0), NONE);
                is(x.actor(0, out, 0), NONE);
            }
            is(x.count(2), 0);
        });
        promise(5, "BAD: heading", x -> {
            for (int bad : new int[] {-1, 4, MIN, MAX}) is(x.actor(0, 0, bad), BAD);
            is(x.count(2), 0);
            is(x.actor(0, 0, 3), 0);
            is(x.actor(0, 0, 0), 1);
        });
        promise(5, "STATE: it is a WALL", x -> {
            x.wall(2, 1, 1);
            for (int heading = 0; heading < 4; heading++) is(x.actor(2, 1, heading), STATE);
            is(x.count(2), 0);
            x.things(1, 2, 9);
            is(x.actor(1, 2, 0), 0);
        });
        promise(5, "FULL", x -> {
            for (int a = 0; a < 3; a++) is(x.actor(a, a, 0), a);
            is(x.actor(3, 3, 0), FULL);
            is(x.actor(0, 0, 0), FULL);
            is(x.count(2), 3);
            is(x.who(3, 0), NO);
            is(x.who(2, 0), 2);
        });
    }

    /** Sheet 0 of a sort with these items. */
    private static void sheet(BlockStage x, int sort, int... items) {
        x.sheet(0, sort, items.length);
        for (int i = 0; i < items.length; i++) x.cell(0, i, items[i]);
    }

    private void layItems() {
        promise(6, "WALLS and THINGS of all cells", x -> {
            x.stage(3, 1);
            x.wall(0, 0, 1);
            x.things(1, 0, 4);
            sheet(x, 0, 2, -1, 0);
            is(x.lay(0, 0, 0), 1);
            looks(x, 3, 1, 2, -1, 0);
            is(x.count(8), 2);
            is(x.wall(1, 0, 0), 1);
        });
        promise(6, "by rows", x -> {
            x.stage(2, 3);
            sheet(x, 2, 1, 2, 3, 4, 5, 6);
            is(x.lay(0, 2, 0), 1);
            looks(x, 2, 3, 1, 2, 3, 4, 5, 6);
            x.stage(3, 2);
            is(x.lay(0, 2, 0), 1);
            looks(x, 3, 2, 1, 2, 3, 4, 5, 6);
        });
        promise(6, "become items of a SHEET taken for one of a sort", x -> {
            x.stage(1, 1);
            for (int sort = 0; sort < 3; sort++) {
                is(x.sheet(sort, sort, 1), 1);
                is(x.cell(sort, 0, sort + 4), 1);
                is(x.lay(sort, sort, 0), 1);
                is(x.look(0, 0), sort + 4);
            }
        });
        promise(6, "from item i on", x -> {
            x.stage(2, 1);
            sheet(x, 1, 1, 2, 3, 4);
            for (int i = 0; i < 3; i++) {
                is(x.lay(0, 1, i), 1);
                looks(x, 2, 1, i + 1, i + 2);
            }
            x.stage(8, 8);
            x.sheet(0, 1, 70);
            for (int i = 0; i < 70; i++) x.cell(0, i, i % 10);
            is(x.lay(0, 1, 6), 1);
            is(x.look(0, 0), 6);
            is(x.look(7, 7), 9);
        });
        promise(6, "-1 a WALL, 0 .. 9 THINGS: 1", x -> {
            x.stage(8, 2);
            sheet(x, 0, -1, 0, 1, 2, 3, 4, 5, 6, 7, 8, 9, 255, 256, 0, 0, 0);
            is(x.lay(0, 0, 0), 1);
            looks(x, 8, 2, -1, 0, 1, 2, 3, 4, 5, 6, 7, 8, 9, -1, 0, 0, 0, 0);
        });
    }

    private void layRefused() {
        promise(6, "BAD: no such SHEET, sort", x -> {
            x.stage(1, 1);
            for (int s = 0; s < 3; s++) x.sheet(s, s, 1);
            for (int bad : new int[] {-1, 3, MIN, MAX}) {
                is(x.lay(bad, 0, 0), BAD);
                is(x.lay(0, bad, 0), BAD);
            }
            is(x.lay(0, 0, 0), 1);
            is(x.lay(2, 2, 0), 1);
        });
        promise(6, "-13: it is of another sort", x -> {
            x.stage(1, 1);
            for (int s = 0; s < 3; s++) x.sheet(s, s, 1);
            for (int s = 0; s < 9; s++) is(x.lay(s / 3, s % 3, 0), s / 3 == s % 3 ? 1 : -13);
        });
        promise(6, "-11: it is missing", x -> {
            x.stage(1, 1);
            for (int s = 0; s < 9; s++) is(x.lay(s / 3, s % 3, 0), -11);
            x.sheet(1, 1, 1);
            is(x.lay(1, 1, 0), 1);
            x.sheet(1, -1, 1);
            for (int sort = 0; sort < 3; sort++) is(x.lay(1, sort, 0), -11);
        });
        promise(6, "-12: it has not so many items", x -> {
            x.stage(2, 2);
            x.sheet(0, 0, 6);
            x.sheet(1, 0, 3);
            x.sheet(2, 0, 0);
            for (int i : new int[] {-1, 3, 6, 7, MIN, MAX}) is(x.lay(0, 0, i), -12);
            is(x.lay(0, 0, 2), 1);
            is(x.lay(1, 0, 0), -12);
            is(x.lay(2, 0, 0), -12);
            x.cell(1, 0, 77);
            is(x.lay(1, 0, 0), -12);
        });
        promise(6, "STATE: another number", x -> {
            x.stage(2, 1);
            for (int bad : new int[] {-2, 10, MIN, MAX, 255, 65535}) {
                x.things(0, 0, 5);
                sheet(x, 2, 3, bad);
                is(x.lay(0, 2, 0), STATE);
                sheet(x, 2, bad, 3);
                is(x.lay(0, 2, 0), STATE);
                looks(x, 2, 1, 5, 0);
                // What does not belong to the cells does not matter.
                sheet(x, 2, bad, 3, 4, bad);
                is(x.lay(0, 2, 1), 1);
                looks(x, 2, 1, 3, 4);
                x.things(1, 0, 0);
            }
        });
        promise(6, "or a WALL where an ACTOR stands", x -> {
            x.stage(2, 2);
            x.actor(1, 0, 0);
            x.actor(0, 1, 0);
            sheet(x, 0, -1, 7, 7, -1);
            is(x.lay(0, 0, 0), 1);
            sheet(x, 0, 7, -1, 7, 7);
            is(x.lay(0, 0, 0), STATE);
            sheet(x, 0, 7, 7, -1, 7);
            is(x.lay(0, 0, 0), STATE);
            looks(x, 2, 2, -1, 7, 7, -1);
            sheet(x, 0, 0, 0, 9, 0);
            is(x.lay(0, 0, 0), 1);
        });
    }

    private void keep() {
        promise(7, "It is KEPT: the number of the STAGE", x -> {
            x.things(1, 1, 7);
            x.actor(2, 2, 3);
            for (int k = 0; k < 4; k++) is(x.keep(), k);
            is(x.count(3), 4);
            is(x.look(1, 1), 7);
            x.things(1, 1, 0);
            x.use(3);
            is(x.look(1, 1), 7);
            is(x.who(0, 2), 3);
        });
        promise(7, "(The RUN goes on.)", x -> {
            x.things(1, 1, 1);
            x.actor(1, 1, 1);
            Words.flagged(x, "TAKE GO");
            x.flag();
            x.tick(1);
            is(x.keep(), 0);
            is(x.count(4), 1);
            is(x.tick(1), 2);
            is(x.who(0, 0), 2);
            is(x.who(0, 3), 1);
            // What is kept is THE BEGINNING, not the RUN's STAGE.
            x.use(0);
            is(x.look(1, 1), 1);
            is(x.who(0, 0), 1);
        });
        promise(7, "FULL", x -> {
            for (int k = 0; k < 4; k++) is(x.keep(), k);
            x.things(0, 0, 5);
            is(x.keep(), FULL);
            is(x.keep(), FULL);
            is(x.count(3), 4);
            for (int k = 0; k < 4; k++) {
                is(x.use(k), 1);
                is(x.look(0, 0), 0);
            }
        });
    }

    private void use() {
        promise(8, "THE BEGINNING is as a KEPT STAGE is: 1", x -> {
            x.stage(8, 2);
            x.wall(7, 1, 1);
            x.things(6, 1, 9);
            for (int a = 0; a < 3; a++) x.actor(a, 1, a);
            x.keep();
            x.stage(1, 1);
            is(x.use(0), 1);
            is(x.look(7, 1), -1);
            is(x.look(6, 1), 9);
            is(x.look(7, 2), -5);
            is(x.count(2), 3);
            is(x.who(2, 0), 2);
            is(x.who(2, 2), 2);
            // The KEPT STAGE stays as it is, whatever is told then.
            x.things(6, 1, 1);
            x.stage(2, 2);
            is(x.use(0), 1);
            is(x.look(6, 1), 9);
            is(x.count(2), 3);
            for (int k = 1; k < 4; k++) {
                x.stage(k, k);
                x.actor(0, 0, 0);
                x.keep();
            }
            for (int i = 0; i < 8; i++) {
                is(x.use(i % 4), 1);
                is(x.count(2), i % 4 == 0 ? 3 : 1);
                is(x.look(i % 4, 0), i % 4 == 0 ? 0 : -5);
                x.wall(0, 0, 1);
                x.actor(0, 0, 0);
                x.stage(5, 5);
            }
        });
        promise(8, "NONE", x -> {
            is(x.use(0), NONE);
            x.keep();
            x.things(0, 0, 3);
            for (int k : new int[] {-1, 1, 3, 4, MIN, MAX}) is(x.use(k), NONE);
            is(x.look(0, 0), 3);
            is(x.use(0), 1);
        });
    }
}
