import java.util.ArrayList;
import java.util.List;

/** Promises 35 and 36, the paragraph of the answers, the constants, and how long an object is used. */
final class AnswerEdges extends Edges {
    private interface Call {
        int on(BlockStage x);
    }

    AnswerEdges(Doc doc) {
        super(doc);
    }

    void run() {
        taken();
        countOfProgram();
        countOfRun();
        countOfRest();
        codes();
        firstNamedOfStage();
        firstNamedOfBlocks();
        firstNamedOfRest();
        changesNothing();
        endsRun();
        constants();
        limit();
    }

    private void taken() {
        int[][] kinds = {{0, 22}, {0, 12}, {10, 12}, {13, 22}, {19, 22}};
        String[] sentences = {"A BLOCK taken for one of a family (0 any", "1 ORDERS", "2 SHELLS", "3 ROUNDS", "4 SHARPS)"};
        for (int family = 0; family < 5; family++) {
            int k = family;
            promise(35, sentences[k], x -> {
                for (int kind = 0; kind < 23; kind++) {
                    x.block(kind, 0);
                    is(x.taken(kind, k), kind >= kinds[k][0] && kind <= kinds[k][1] ? kind : -13);
                }
            });
        }
        promise(35, "or one under that: its KIND", x -> {
            for (int kind = 22; kind >= 0; kind--) {
                int block = x.block(kind, 0);
                is(x.taken(block, 0), kind);
                if (kind >= 10 && kind <= 12) is(x.taken(block, 1), kind);
                if (kind >= 19) is(x.taken(block, 3), kind);
            }
        });
        promise(35, "BAD: k", x -> {
            for (int bad : new int[] {-1, 5, 6, MIN, MAX}) {
                is(x.taken(0, bad), BAD);
                x.block(12, 0);
                is(x.taken(0, bad), BAD);
            }
        });
        promise(35, "-11: no such BLOCK", x -> {
            is(x.taken(0, 0), -11);
            x.block(0, 0);
            for (int bad : new int[] {-1, 1, 29, 30, MIN, MAX}) {
                for (int k = 0; k < 5; k++) is(x.taken(bad, k), -11);
            }
            is(x.taken(0, 0), 0);
        });
        promise(35, "-13", x -> {
            Words.blocks(x, "GO REPEAT(1)(GO) SAY(MET)");
            int[][] due = {{0, 0, -13, -13, -13}, {10, 10, 10, -13, -13}, {13, -13, -13, 13, -13},
                {0, 0, -13, -13, -13}, {5, 5, -13, -13, -13}, {22, -13, -13, 22, 22}};
            for (int b = 0; b < 6; b++) {
                for (int k = 0; k < 5; k++) is(x.taken(b, k), due[b][k]);
            }
        });
    }

    private void countOfProgram() {
        promise(36, "How many: 0 BLOCKS", x -> {
            is(x.count(0), 0);
            for (int i = 1; i <= 30; i++) {
                x.block(7, 0);
                is(x.count(0), i);
            }
            x.block(7, 0);
            x.stage(1, 1);
            is(x.count(0), 30);
        });
        promise(36, "1 SCRIPTS", x -> {
            is(x.count(1), 0);
            for (int i = 1; i <= 6; i++) {
                x.cue(2, 3, 0, 1);
                is(x.count(1), i);
            }
            x.cue(0, 0, 0, 0);
            x.stage(1, 1);
            is(x.count(1), 6);
        });
        promise(36, "2 ACTORS of THE BEGINNING", x -> {
            is(x.count(2), 0);
            for (int i = 1; i <= 3; i++) {
                x.actor(0, 0, 0);
                is(x.count(2), i);
            }
            x.actor(0, 0, 0);
            x.keep();
            x.flag();
            is(x.count(2), 3);
            x.stage(4, 4);
            is(x.count(2), 0);
            x.use(0);
            is(x.count(2), 3);
        });
        promise(36, "3 KEPT STAGES", x -> {
            is(x.count(3), 0);
            for (int i = 1; i <= 4; i++) {
                x.keep();
                is(x.count(3), i);
            }
            x.keep();
            x.use(1);
            is(x.count(3), 4);
        });
    }

    private void countOfRun() {
        promise(36, "4 the TICK (-1: no RUN)", x -> {
            is(x.count(4), -1);
            x.flag();
            is(x.count(4), 0);
            x.tick(100);
            is(x.count(4), 100);
            x.tick(100);
            x.tick(100);
            is(x.count(4), 300);
            x.back(297);
            is(x.count(4), 3);
            x.stage(1, 1);
            is(x.count(4), -1);
        });
        promise(36, "5 how often was SAID", x -> {
            x.actor(0, 0, 0);
            Words.script(x, 0, EVERY, 2, 0, "SAY");
            is(x.count(5), 0);
            x.flag();
            is(x.count(5), 0);
            int[] ticks = {1, 3, 96, 100, 100};
            int[] due = {0, 2, 50, 100, 150};
            for (int i = 0; i < 5; i++) {
                x.tick(ticks[i]);
                is(x.count(5), due[i]);
            }
            x.back(298);
            is(x.count(5), 1);
            x.flag();
            is(x.count(5), 0);
            x.tick(5);
            // Without a RUN nothing was said.
            x.take(0);
            is(x.count(5), 0);
        });
        promise(36, "8 all THINGS (of the RUN, or THE BEGINNING)", x -> {
            is(x.count(8), 0);
            x.stage(8, 8);
            for (int i = 0; i < 64; i++) x.things(i % 8, i / 8, 9);
            is(x.count(8), 576);
            x.actor(3, 3, 0);
            Words.script(x, 0, EVERY, 1, 0, "TAKE");
            x.flag();
            is(x.count(8), 576);
            x.tick(4);
            is(x.count(8), 572);
            x.things(0, 0, 0);
            is(x.count(8), 567);
            // A WALL is no THING.
            x.wall(0, 0, 1);
            is(x.count(8), 567);
            x.stage(2, 2);
            is(x.count(8), 0);
        });
    }

    private void countOfRest() {
        promise(36, "6 bytes of THE TAPE", x -> {
            is(x.count(6), 0);
            for (int i = 1; i <= 20; i++) {
                x.feed('e', 4);
                is(x.count(6), 4 * i);
            }
            x.wish();
            is(x.count(6), 0);
        });
        promise(36, "7 PARTS of THE WISH", x -> {
            is(x.count(7), 0);
            String text = "end g=0";
            for (int parts = 1; parts <= 4; parts++) {
                Kinds.wish(x, text);
                is(x.count(7), parts);
                text = text + " and end g=0";
            }
            Kinds.wish(x, "end g=0 and ");
            is(x.count(7), 4);
            Kinds.wish(x, "end g=0");
            is(x.count(7), 1);
        });
        promise(36, "9 bodies that ran in the latest act() (all, kept or not)", x -> {
            is(x.count(9), 0);
            x.block(19, 0);
            is(x.count(9), 0);
            int[] due = {2, 4, 12};
            for (int act = 0; act < 3; act++) {
                x.act(0, act, 1);
                is(x.count(9), due[act]);
            }
            x.flag();
            is(x.count(9), 12);
            x.act(1, 2, 1);
            is(x.count(9), 0);
        });
        promise(36, "BAD", x -> {
            for (int times = 0; times < 2; times++) {
                for (int bad : new int[] {-1, 10, 11, MIN, MAX}) is(x.count(bad), BAD);
                x.flag();
            }
        });
    }

    private void codes() {
        answers("NONE (-1) there is no such number", x -> {
            is(BlockStage.NONE, -1);
            is(x.use(0), BlockStage.NONE);
            is(x.take(0), BlockStage.NONE);
            is(x.write(0), BlockStage.NONE);
        });
        answers("BAD (-2) a number is not as told", x -> {
            is(BlockStage.BAD, -2);
            is(x.stage(0, 0), BlockStage.BAD);
            is(x.block(-1, 0), BlockStage.BAD);
            is(x.count(10), BlockStage.BAD);
        });
        answers("STATE (-3) as told", x -> {
            is(BlockStage.STATE, -3);
            is(x.tick(1), BlockStage.STATE);
            is(x.mark(1), BlockStage.STATE);
            is(x.fails(0), BlockStage.STATE);
        });
        answers("FULL (-4)", x -> {
            is(BlockStage.FULL, -4);
            for (int i = 0; i < 30; i++) x.block(0, 0);
            for (int i = 0; i < 6; i++) x.cue(0, 0, 0, 0);
            for (int i = 0; i < 4; i++) x.keep();
            for (int i = 0; i < 3; i++) x.actor(0, 0, 0);
            for (int i = 0; i < 20; i++) x.feed(0, 4);
            x.flag();
            for (int i = 0; i < 3; i++) x.tick(100);
            is(x.block(0, 0), BlockStage.FULL);
            is(x.cue(0, 0, 0, 0), BlockStage.FULL);
            is(x.keep(), BlockStage.FULL);
            is(x.actor(0, 0, 0), BlockStage.FULL);
            is(x.feed(0, 1), BlockStage.FULL);
            is(x.tick(1), BlockStage.FULL);
        });
    }

    private void firstNamedOfStage() {
        answers("; the first that a call's words name.", x -> {
            x.wall(1, 1, 1);
            x.things(2, 2, 3);
            for (int a = 0; a < 3; a++) x.actor(3, a, 0);
            is(x.wall(4, 0, 2), NONE);
            is(x.wall(2, 2, 2), BAD);
            is(x.wall(3, 0, -1), BAD);
            is(x.things(4, 0, 10), NONE);
            is(x.things(1, 1, 10), BAD);
            is(x.actor(4, 0, 4), NONE);
            is(x.actor(4, 0, 0), NONE);
            is(x.actor(1, 1, 4), BAD);
            is(x.actor(0, 0, 4), BAD);
            is(x.actor(1, 1, 0), STATE);
            is(x.actor(0, 0, 0), FULL);
            is(x.lay(3, 0, -1), BAD);
            is(x.lay(0, 3, -1), BAD);
            is(x.lay(0, 0, -1), -11);
            x.sheet(0, 2, 16);
            for (int i = 0; i < 16; i++) x.cell(0, i, 10);
            is(x.lay(0, 3, -1), BAD);
            is(x.lay(0, 1, -1), -13);
            is(x.lay(0, 1, 0), -13);
            is(x.lay(0, 2, 1), -12);
            is(x.lay(0, 2, 0), STATE);
        });
    }

    private void firstNamedOfBlocks() {
        promise(10, "NONE: no such BLOCKS, block has no such HOLE; STATE", x -> {
            Words.flagged(x, "SAY(1) GO");
            // No such HOLE, or BLOCK, ahead of what is in a HOLE, or a TOP, or does not fit.
            is(x.join(0, 1, 1), NONE);
            is(x.join(2, 3, 0), NONE);
            is(x.join(0, 0, 9), NONE);
            is(x.join(9, 0, 1), NONE);
            is(x.join(1, 3, 0), NONE);
            // What is in a HOLE, or a TOP, ahead of what does not fit, or would be within itself.
            int met = x.block(22, 0);
            is(x.join(0, 0, met), STATE);
            is(x.join(2, 0, 1), STATE);
            is(x.join(2, 0, 0), STATE);
            is(x.join(0, 0, 0), STATE);
            is(x.join(2, 0, met), BAD);
            x.take(0);
            is(x.join(0, 0, 0), STATE);
            is(x.join(2, 0, 0), BAD);
            x.take(2);
            is(x.join(0, 0, 0), BAD);
        });
        promise(12, "NONE; BAD", x -> {
            is(x.number(0, 100), NONE);
            x.block(0, 0);
            is(x.number(1, 100), NONE);
            is(x.number(0, 100), BAD);
        });
        promise(9, "BAD: kind, n", x -> {
            for (int i = 0; i < 30; i++) x.block(0, 0);
            is(x.block(23, 0), BAD);
            is(x.block(-1, 0), BAD);
            is(x.block(0, 1), BAD);
            is(x.block(13, 100), BAD);
            is(x.block(0, 0), FULL);
        });
        promise(13, "NONE: actor is not 0 .. 2; BAD: cap", x -> {
            is(x.cue(3, 4, 0, 0), NONE);
            is(x.cue(-1, 0, 1, 0), NONE);
            is(x.cue(3, 0, 0, 2), NONE);
            for (int i = 0; i < 6; i++) x.cue(0, 0, 0, 0);
            is(x.cue(3, 0, 0, 0), NONE);
            is(x.cue(0, 4, 0, 0), BAD);
            is(x.cue(0, 2, 0, 0), BAD);
            is(x.cue(0, 0, 0, 2), BAD);
            is(x.cue(0, 0, 0, 0), FULL);
        });
        promise(14, "NONE; STATE", x -> {
            Words.flagged(x, "SAY(1)");
            x.cue(0, 0, 0, 0);
            x.block(13, 0);
            is(x.top(0, 3), NONE);
            is(x.top(2, 0), NONE);
            is(x.top(2, 1), NONE);
            is(x.top(0, 2), STATE);
            is(x.top(1, 1), STATE);
            is(x.top(1, 2), BAD);
        });
    }

    private void firstNamedOfRest() {
        promise(20, "STATE: there is no RUN; BAD; FULL", x -> {
            is(x.tick(0), STATE);
            is(x.tick(101), STATE);
            x.flag();
            for (int i = 0; i < 3; i++) x.tick(100);
            is(x.tick(0), BAD);
            is(x.tick(101), BAD);
            is(x.tick(1), FULL);
        });
        promise(21, "STATE; BAD", x -> {
            is(x.back(-1), STATE);
            is(x.back(1), STATE);
            x.flag();
            is(x.back(1), BAD);
        });
        promise(25, "BAD; FULL", x -> {
            for (int i = 0; i < 20; i++) x.feed(0, 4);
            is(x.feed(0, 5), BAD);
            is(x.feed(0, -1), BAD);
            is(x.feed(0, 1), FULL);
        });
        promise(27, "BAD: t; STATE", x -> {
            is(x.mark(0), BAD);
            is(x.mark(41), BAD);
            is(x.mark(1), STATE);
        });
        promise(28, "STATE: there was none. BAD", x -> {
            is(x.fails(2), STATE);
            x.keep();
            Kinds.wish(x, "end g=0");
            x.mark(1);
            is(x.fails(2), BAD);
        });
        promise(35, "BAD: k; -11: no such BLOCK; -13", x -> {
            is(x.taken(0, 5), BAD);
            is(x.taken(0, -1), BAD);
            is(x.taken(0, 4), -11);
            x.block(0, 0);
            is(x.taken(0, 5), BAD);
            is(x.taken(0, 4), -13);
        });
        promise(37, "BAD: no such SHEET, sort; n above 70; -14", x -> {
            is(x.sheet(3, 0, -1), BAD);
            is(x.sheet(3, -1, -1), BAD);
            is(x.sheet(0, 3, -1), BAD);
            is(x.sheet(0, -2, -1), BAD);
            is(x.sheet(0, 0, -1), -14);
        });
        promise(38, "BAD: no such SHEET; -11; -12", x -> {
            is(x.cell(3, -1, 0), BAD);
            is(x.cell(0, -1, 0), -11);
            x.sheet(0, 0, 1);
            is(x.cell(0, -1, 0), -12);
        });
        promise(39, "BAD: no such SHEETS; -11; -13: they are not of one sort; -12", x -> {
            x.sheet(0, 0, 1);
            is(x.copy(1, -1, 3, 0, 0), BAD);
            is(x.copy(3, -1, 1, 0, 0), BAD);
            is(x.copy(0, -1, 1, 0, 0), -11);
            is(x.copy(1, -1, 0, 0, 0), -11);
            x.sheet(1, 1, 1);
            is(x.copy(0, -1, 1, 0, 0), -13);
            is(x.copy(0, 0, 1, 0, -1), -13);
            x.sheet(1, 0, 1);
            is(x.copy(0, -1, 1, 0, 0), -12);
        });
    }

    /**
     * An object in which there is something of all: 3 by 2 cells, actors, kept stages, blocks 0 to 6
     * (TURN SAY NUMBER in script 0, IF with MET in script 1, GO and NUMBER loose), script 2 without a TOP,
     * a wish, a mark, changes, a text, a trace, sheets of sorts 0 and 2, a tape, a run. Full: as full as may be.
     */
    private static BlockStage rich(boolean full) {
        BlockStage x = new BlockStage();
        x.stage(3, 2);
        x.wall(2, 1, 1);
        x.things(1, 0, 4);
        x.actor(0, 0, 1);
        x.actor(1, 0, 0);
        x.keep();
        x.things(0, 1, 2);
        Words.flagged(x, "TURN1 SAY(5)");
        Words.script(x, 1, EVERY, 1, 0, "IF(MET)");
        x.cue(1, MEETING, 0, 1);
        x.block(0, 0);
        x.block(13, 7);
        Kinds.wish(x, "end h0=3");
        x.mark(2);
        x.least(2);
        x.write(0);
        x.act(0, 1, 5);
        x.sheet(0, 0, 7);
        for (int i = 1; i < 7; i++) x.cell(0, i, i);
        x.cell(0, 1, -1);
        x.sheet(1, 2, 7);
        for (int i = 0; i < 6; i++) x.cell(1, i, i + 2);
        x.cell(1, 6, 77);
        x.feed('e', 1);
        for (int i = 0; full && i < 40; i++) {
            if (i < 23) x.block(7, 0);
            if (i < 3) x.cue(2, 1, i, 0);
            if (i < 3) x.keep();
            if (i < 1) x.actor(2, 0, 3);
            if (i < 19) x.feed('e', 4);
            if (i == 19) x.feed('e', 3);
        }
        x.flag();
        if (full) x.tick(100);
        if (full) x.tick(100);
        x.tick(full ? 100 : 2);
        return x;
    }

    /** All that is seen of such an object, what calls show that change it last. */
    private static List<Integer> seen(BlockStage x) {
        List<Integer> seen = new ArrayList<>();
        for (int i = 0; i < 6; i++) seen.add(x.look(i % 3, i / 3));
        for (int what = 0; what < 10; what++) seen.add(x.count(what));
        for (int b = 0; b < 8; b++) {
            for (int what = 0; what < 5; what++) seen.add(x.of(b, what));
        }
        for (int s = 0; s < 4; s++) {
            for (int what = 0; what < 8; what++) seen.add(x.scriptOf(s, what));
        }
        for (int hole = 0; hole < 4; hole++) {
            seen.add(x.hole(1, hole));
            seen.add(x.hole(3, hole));
        }
        for (int a = 0; a < 3; a++) {
            for (int what = 0; what < 6; what++) seen.add(x.who(a, what));
        }
        for (int i = 0; i < 3; i++) {
            seen.add(x.said(0, i));
            seen.add(x.trace(i));
            seen.add(x.text(i));
            seen.add(x.fails(i % 2));
            seen.add(x.hint(0, i % 2));
        }
        seen.add(x.back(1));
        seen.add(x.mark(2));
        seen.add(x.wish());
        for (int sheet = 0; sheet < 3; sheet++) {
            for (int i = 0; i < 7; i++) {
                x.stage(1, 1);
                seen.add(x.lay(sheet, sheet == 0 ? 0 : 2, i));
                seen.add(x.look(0, 0));
            }
        }
        for (int k = 0; k < 2; k++) {
            seen.add(x.use(k));
            seen.add(x.look(0, 1));
            seen.add(x.count(2));
        }
        return seen;
    }

    private void same(boolean full, int due, Call call) {
        BlockStage x = rich(full);
        is(call.on(x), due);
        List<Integer> now = seen(x);
        List<Integer> was = seen(rich(full));
        for (int i = 0; i < was.size(); i++) is(now.get(i), was.get(i));
    }

    private void changesNothing() {
        answers("What is answered so changes nothing.", x -> {
            refusedOfStage();
            refusedOfBlocks();
            refusedOfRest();
            refusedOfSheets();
            refusedFull();
            is(x.count(0), 0);
        });
    }

    private void refusedOfStage() {
        same(false, BAD, y -> y.stage(3, 9));
        same(false, NONE, y -> y.wall(3, 0, 1));
        same(false, BAD, y -> y.wall(1, 1, 2));
        same(false, STATE, y -> y.wall(0, 0, 1));
        same(false, STATE, y -> y.wall(0, 1, 0));
        same(false, NONE, y -> y.things(0, 2, 1));
        same(false, BAD, y -> y.things(0, 0, 10));
        same(false, STATE, y -> y.things(2, 1, 0));
        same(false, NONE, y -> y.actor(3, 0, 0));
        same(false, BAD, y -> y.actor(0, 0, 4));
        same(false, STATE, y -> y.actor(2, 1, 0));
        same(false, BAD, y -> y.lay(3, 0, 0));
        same(false, BAD, y -> y.lay(0, 3, 0));
        same(false, -13, y -> y.lay(0, 1, 0));
        same(false, -11, y -> y.lay(2, 0, 0));
        same(false, -12, y -> y.lay(0, 0, 2));
        // Item 1 of sheet 0 is a WALL, where actor 1 stands; the last item of sheet 1 is another number.
        same(false, STATE, y -> y.lay(0, 0, 0));
        same(false, STATE, y -> y.lay(1, 2, 1));
        same(false, NONE, y -> y.use(1));
        same(false, NONE, y -> y.use(-1));
    }

    private void refusedOfBlocks() {
        same(false, BAD, y -> y.block(23, 0));
        same(false, BAD, y -> y.block(0, 1));
        same(false, NONE, y -> y.join(0, 1, 5));
        same(false, NONE, y -> y.join(7, 0, 5));
        same(false, NONE, y -> y.join(1, 0, 7));
        same(false, STATE, y -> y.join(0, 0, 5));
        same(false, STATE, y -> y.join(1, 0, 3));
        same(false, STATE, y -> y.join(3, 0, 1));
        same(false, BAD, y -> y.join(1, 0, 6));
        same(false, BAD, y -> y.join(5, 0, 5));
        same(false, NONE, y -> y.take(7));
        same(false, STATE, y -> y.take(5));
        same(false, NONE, y -> y.number(7, 0));
        same(false, BAD, y -> y.number(0, 4));
        same(false, BAD, y -> y.number(5, 0));
        same(false, NONE, y -> y.cue(3, 0, 0, 0));
        same(false, BAD, y -> y.cue(0, 4, 0, 0));
        same(false, BAD, y -> y.cue(0, 2, 10, 0));
        same(false, BAD, y -> y.cue(0, 0, 0, 2));
        same(false, NONE, y -> y.top(3, 5));
        same(false, NONE, y -> y.top(2, 7));
        same(false, STATE, y -> y.top(0, 5));
        same(false, STATE, y -> y.top(2, 1));
        same(false, STATE, y -> y.top(2, 3));
        same(false, BAD, y -> y.top(2, 6));
    }

    private void refusedOfRest() {
        same(false, BAD, y -> y.tick(0));
        same(false, BAD, y -> y.tick(101));
        same(false, BAD, y -> y.back(3));
        same(false, BAD, y -> y.back(-1));
        same(false, BAD, y -> y.feed(0, 5));
        same(false, BAD, y -> y.feed(0, -1));
        same(false, BAD, y -> y.mark(0));
        same(false, BAD, y -> y.mark(41));
        same(false, BAD, y -> y.fails(2));
        same(false, BAD, y -> y.least(0));
        same(false, BAD, y -> y.least(41));
        same(false, NONE, y -> y.write(3));
        same(false, STATE, y -> y.write(2));
        same(false, NONE, y -> y.text(9));
        same(false, NONE, y -> y.trace(9));
        same(false, BAD, y -> y.taken(0, 5));
        same(false, -11, y -> y.taken(7, 0));
        same(false, -13, y -> y.taken(0, 2));
        same(false, BAD, y -> y.count(10));
    }

    private void refusedOfSheets() {
        same(false, BAD, y -> y.sheet(3, 0, 1));
        same(false, BAD, y -> y.sheet(0, 3, 1));
        same(false, BAD, y -> y.sheet(0, 0, 71));
        same(false, -14, y -> y.sheet(0, 0, -1));
        same(false, BAD, y -> y.cell(3, 0, 1));
        same(false, -11, y -> y.cell(2, 0, 1));
        same(false, -12, y -> y.cell(0, 7, 1));
        same(false, BAD, y -> y.copy(0, 0, 3, 0, 1));
        same(false, -11, y -> y.copy(0, 0, 2, 0, 1));
        same(false, -13, y -> y.copy(0, 0, 1, 0, 1));
        same(false, -12, y -> y.copy(0, 2, 0, 3, 5));
        same(false, -12, y -> y.copy(0, 2, 0, 0, -1));
    }

    private void refusedFull() {
        same(true, FULL, y -> y.actor(0, 0, 0));
        same(true, FULL, y -> y.keep());
        same(true, FULL, y -> y.block(0, 0));
        same(true, FULL, y -> y.cue(0, 0, 0, 0));
        same(true, FULL, y -> y.tick(1));
        same(true, FULL, y -> y.feed('x', 1));
        same(true, STATE, y -> y.least(2));
    }

    /** Whether the RUN, of 2 ticks, is there behind a call. */
    private void goesOn(boolean on, int due, Call call) {
        BlockStage x = rich(false);
        is(call.on(x), due);
        is(x.count(4), on ? 2 : -1);
        is(x.tick(1), on ? 3 : STATE);
        is(x.back(0), on ? 3 : STATE);
        is(x.said(0, 1), on ? 5 : NO);
        is(x.scriptOf(1, 6), -1);
        is(x.flag(), 1);
        is(x.tick(1), 1);
    }

    private void endsRun() {
        answers("Calls of 'the stage', 'blocks', that are not refused", x -> {
            goesOn(false, 1, y -> y.stage(3, 2));
            goesOn(false, 0, y -> y.wall(1, 1, 1));
            goesOn(false, 0, y -> y.wall(1, 1, 0));
            goesOn(false, 4, y -> y.things(1, 0, 4));
            goesOn(false, 2, y -> y.actor(0, 0, 0));
            goesOn(false, 1, y -> y.use(0));
            goesOn(false, 7, y -> y.block(0, 0));
            goesOn(false, 1, y -> y.join(1, 0, 5));
            goesOn(false, 1, y -> y.take(1));
            goesOn(false, 1, y -> y.take(0));
            goesOn(false, 1, y -> y.number(0, 1));
            goesOn(false, 3, y -> y.cue(0, 0, 0, 0));
            goesOn(false, 1, y -> y.top(2, 5));
            goesOn(false, 1, y -> {
                y.cell(0, 1, 0);
                return y.lay(0, 0, 0);
            });
            is(x.count(4), -1);
        });
        answers("(the host's too)", x -> {
            goesOn(true, -13, y -> y.lay(0, 1, 0));
            goesOn(true, -11, y -> y.lay(2, 0, 0));
            goesOn(true, -12, y -> y.lay(0, 0, 2));
            goesOn(true, STATE, y -> y.lay(0, 0, 0));
            goesOn(true, STATE, y -> y.take(5));
            goesOn(true, BAD, y -> y.number(0, 4));
            is(x.count(4), -1);
        });
        answers(", end the RUN (there is none then).", x -> {
            // Others do not: it goes on.
            goesOn(true, 1, y -> y.keep());
            goesOn(true, 4, y -> y.look(1, 0));
            goesOn(true, 2, y -> y.feed('n', 1));
            goesOn(true, -11, y -> y.wish());
            goesOn(true, 0, y -> y.mark(2));
            goesOn(true, 1, y -> y.least(2));
            goesOn(true, 7, y -> y.write(0));
            goesOn(true, 8, y -> y.act(0, 1, 5));
            goesOn(true, 0, y -> y.act(99, 1, 5));
            goesOn(true, 1, y -> y.taken(0, 1));
            goesOn(true, 1, y -> y.sheet(0, 1, 2));
            goesOn(true, 1, y -> y.sheet(0, -1, 2));
            goesOn(true, 1, y -> y.cell(0, 0, 2));
            goesOn(true, 2, y -> y.copy(0, 0, 0, 1, 2));
            is(x.count(4), -1);
        });
    }

    private void constants() {
        constant("`NO = Integer.MIN_VALUE`: There is no such number.", x -> {
            is(BlockStage.NO, Integer.MIN_VALUE);
            is(x.of(0, 0), BlockStage.NO);
            is(x.scriptOf(0, 0), BlockStage.NO);
            is(x.who(0, 0), BlockStage.NO);
            is(x.item(0, 0), BlockStage.NO);
            is(x.said(0, 0), BlockStage.NO);
        });
    }

    private void limit() {
        limit("An object is used for at most 512 calls after it has been made", x -> {
            x.actor(0, 0, 1);
            Words.script(x, 0, EVERY, 1, 0, "SAY(MINE) TAKE");
            x.flag();
            // Nine calls were ahead of these, so count() is the 512th.
            for (int i = 0; i < 502; i++) is(x.tick(1), i < 300 ? i + 1 : FULL);
            is(x.count(5), 150);
        });
    }
}
