/** Promises 9 to 18 and what Term 2 says of blocks and scripts. */
final class BlockEdges extends Edges {
    private static final int IF = 12, NUMBER = 13, SUM = 15, LESS = 20, MET = 22;
    private static final int[] FAR = {-1, 30, 31, MIN, MAX};

    BlockEdges(Doc doc) {
        super(doc);
    }

    void run() {
        termBlocks();
        termOrders();
        termRounds();
        termFits();
        termScripts();
        block();
        join();
        joinRefused();
        take();
        number();
        cue();
        top();
        look();
        hole();
        of();
        scriptOf();
    }

    /** A kind takes n from low to high, and has just these holes. */
    private void kind(BlockStage x, int kind, int low, int high, String holes) {
        is(x.block(kind, low - 1), BAD);
        is(x.block(kind, high + 1), BAD);
        is(x.block(kind, MIN), BAD);
        is(x.block(kind, MAX), BAD);
        is(x.block(kind, low), 0);
        is(x.block(kind, high), 1);
        is(x.of(0, 0), kind);
        is(x.of(0, 1), low);
        is(x.of(1, 1), high);
        for (int h = -1; h <= 5; h++) is(x.hole(0, h), holes.indexOf((char) ('0' + h)) >= 0 ? NONE : -5);
    }

    private void termBlocks() {
        term(2, "BLOCKS 0 .. 29, as they come", x -> {
            for (int i = 0; i < 30; i++) {
                is(x.of(i, 0), NO);
                is(x.block(i % 23, 0), i);
                is(x.of(i, 0), i % 23);
            }
            is(x.block(0, 0), FULL);
            is(x.of(30, 0), NO);
        });
        term(2, "each of a KIND with a number n (0 where none is told)", x -> {
            for (int kind = 0; kind < 23; kind++) {
                x.block(kind, 0);
                is(x.of(kind, 0), kind);
                is(x.of(kind, 1), 0);
            }
            is(x.number(0, 0), BAD);
            is(x.number(MET, 0), BAD);
        });
        term(2, "and with HOLES, each empty or with one BLOCK: 0 NEXT, 1 BODY, 2 OTHER, 3 FIRST, 4 SECOND.", x -> {
            Words.flagged(x, "IF(MET)(GO)(TAKE) LAY(1)(2)");
            is(x.hole(0, 3), 1);
            is(x.hole(0, 1), 2);
            is(x.hole(0, 2), 3);
            is(x.hole(0, 0), 4);
            is(x.hole(4, 3), 5);
            is(x.hole(4, 4), 6);
            is(x.hole(4, 0), NONE);
            int one = x.block(0, 0);
            is(x.join(0, 1, one), STATE);
            is(x.join(0, -1, one), NONE);
            is(x.join(0, 5, one), NONE);
        });
    }

    private void termOrders() {
        term(2, "KINDS, with their HOLES: ORDERS:", x -> {
            for (int kind = 0; kind < 23; kind++) {
                x.block(kind, 0);
                is(x.taken(kind, 1), kind <= 12 ? kind : -13);
            }
        });
        term(2, "0 GO (0).", x -> kind(x, 0, 0, 0, "0"));
        term(2, "1 TURN n, 0 .. 3 (0).", x -> kind(x, 1, 0, 3, "0"));
        term(2, "2 TAKE (0).", x -> kind(x, 2, 0, 0, "0"));
        term(2, "3 PUT (0).", x -> kind(x, 3, 0, 0, "0"));
        term(2, "4 SET (0, 3).", x -> kind(x, 4, 0, 0, "03"));
        term(2, "5 SAY (0, 3).", x -> kind(x, 5, 0, 0, "03"));
        term(2, "6 CALL n, 0 .. 3 (0).", x -> kind(x, 6, 0, 3, "0"));
        term(2, "7 WAIT (0).", x -> kind(x, 7, 0, 0, "0"));
        term(2, "8 MAKE (0, 3).", x -> kind(x, 8, 0, 0, "03"));
        term(2, "9 LAY (0, 3, 4).", x -> kind(x, 9, 0, 0, "034"));
        term(2, "SHELLS, under ORDERS:", x -> {
            for (int kind = 0; kind < 23; kind++) {
                x.block(kind, 0);
                is(x.taken(kind, 2), kind >= 10 && kind <= 12 ? kind : -13);
            }
        });
        term(2, "10 REPEAT (0, 1, 3).", x -> {
            kind(x, 10, 0, 0, "013");
            is(x.join(0, 3, x.block(NUMBER, 0)), 1);
        });
        term(2, "11 WHILE (0, 1, 3: a SHARP).", x -> {
            kind(x, 11, 0, 0, "013");
            is(x.join(0, 3, x.block(NUMBER, 0)), BAD);
            is(x.join(0, 3, x.block(MET, 0)), 1);
        });
        term(2, "12 IF (0, 1, 2, 3: a SHARP).", x -> {
            kind(x, 12, 0, 0, "0123");
            is(x.join(0, 3, x.block(NUMBER, 0)), BAD);
            is(x.join(0, 3, x.block(MET, 0)), 1);
        });
    }

    private void termRounds() {
        term(2, "ROUNDS: 13 NUMBER n, -99 .. 99.", x -> {
            kind(x, 13, -99, 99, "");
            is(x.taken(0, 3), 13);
        });
        term(2, "14 MINE.", x -> kind(x, 14, 0, 0, ""));
        term(2, "15 SUM (3, 4).", x -> kind(x, 15, 0, 0, "34"));
        term(2, "16 HERE.", x -> kind(x, 16, 0, 0, ""));
        term(2, "17 ITEM (3).", x -> kind(x, 17, 0, 0, "3"));
        term(2, "18 PART (3, 4).", x -> {
            kind(x, 18, 0, 0, "34");
            is(x.taken(0, 4), -13);
        });
        term(2, "SHARPS, under ROUNDS: 19 WALLED.", x -> {
            kind(x, 19, 0, 0, "");
            is(x.taken(0, 4), 19);
            is(x.taken(0, 3), 19);
        });
        term(2, "20 LESS (3, 4).", x -> {
            kind(x, 20, 0, 0, "34");
            is(x.join(0, 3, x.block(NUMBER, 0)), 1);
        });
        term(2, "21 NOT (3: a SHARP).", x -> {
            kind(x, 21, 0, 0, "3");
            is(x.join(0, 3, x.block(NUMBER, 0)), BAD);
            is(x.join(0, 3, x.block(MET, 0)), 1);
        });
        term(2, "22 MET.", x -> {
            kind(x, 22, 0, 0, "");
            is(x.block(23, 0), BAD);
        });
    }

    /** What a hole of a host answers to a block of each kind. */
    private void fits(BlockStage x, int host, int hole, int low, int high) {
        int h = x.block(host, 0);
        for (int kind = 0; kind < 23; kind++) {
            int b = x.block(kind, 0);
            boolean right = kind >= low && kind <= high;
            is(x.join(h, hole, b), right ? 1 : BAD);
            if (right) x.take(b);
        }
    }

    private void termFits() {
        term(2, "Into HOLES 0, 1, 2 fit ORDERS", x -> {
            for (int hole = 0; hole < 3; hole++) fits(new BlockStage(), IF, hole, 0, 12);
            for (int host = 0; host < 13; host++) fits(new BlockStage(), host, 0, 0, 12);
        });
        term(2, "into 3, 4 ROUNDS", x -> {
            for (int host : new int[] {4, 5, 8, 9, 10, 15, 17, 18, 20}) fits(new BlockStage(), host, 3, 13, 22);
            for (int host : new int[] {9, 15, 18, 20}) fits(new BlockStage(), host, 4, 13, 22);
        });
        term(2, "(where a SHARP is told just these)", x -> {
            for (int host : new int[] {11, 12, 21}) fits(new BlockStage(), host, 3, 19, 22);
        });
        term(2, "A BLOCK is in one HOLE, or the TOP of one SCRIPT, or in none", x -> {
            Words.blocks(x, "REPEAT(1)(GO)");
            x.cue(0, 0, 0, 0);
            x.cue(0, 0, 0, 0);
            is(x.join(0, 0, 2), STATE);
            is(x.top(0, 2), STATE);
            is(x.top(0, 0), 1);
            is(x.top(1, 0), STATE);
            is(x.take(2), 1);
            is(x.join(2, 0, 0), STATE);
            is(x.top(1, 2), 1);
            is(x.join(0, 1, 2), STATE);
            is(x.take(2), 1);
            is(x.take(2), STATE);
        });
        term(2, "it is not within itself, by whatever HOLES.", x -> {
            Words.blocks(x, "IF()(IF()()(IF() GO))");
            for (int b = 0; b < 4; b++) is(x.join(b, 0, 0), b == 2 ? STATE : BAD);
            x.join(2, 1, x.block(7, 0));
            is(x.join(4, 0, 0), BAD);
            Words.blocks(x, "SUM(SUM()(SUM))");
            for (int b = 5; b < 8; b++) is(x.join(b, b == 5 ? 4 : 3, 5), BAD);
            // Taken out, it is not within any more.
            x.take(1);
            is(x.join(3, 0, 0), 1);
            is(x.join(0, 1, 1), BAD);
        });
    }

    private void termScripts() {
        term(2, "SCRIPTS 0 .. 5, as they come: an ACTOR (0 .. 2)", x -> {
            for (int s = 0; s < 6; s++) {
                is(x.scriptOf(s, 0), NO);
                is(x.cue(s % 3, 0, 0, 0), s);
                is(x.scriptOf(s, 0), s % 3);
            }
            is(x.cue(0, 0, 0, 0), FULL);
            is(x.cue(3, 0, 0, 0), NONE);
            is(x.cue(-1, 0, 0, 0), NONE);
        });
        term(2, "a CAP (0 FLAG, 1 CALL c, 2 EVERY c TICKS, 3 MEETING)", x -> {
            int[] c = {0, 3, 9, 0};
            for (int cap = 0; cap < 4; cap++) {
                is(x.cue(0, cap, c[cap], 0), cap);
                is(x.scriptOf(cap, 1), cap);
                is(x.scriptOf(cap, 2), c[cap]);
            }
            is(x.cue(0, 4, 0, 0), BAD);
            is(x.cue(0, -1, 0, 0), BAD);
        });
        term(2, "AGAIN (0, 1)", x -> {
            is(x.cue(0, 0, 0, 0), 0);
            is(x.cue(0, 0, 0, 1), 1);
            is(x.cue(0, 0, 0, 2), BAD);
            is(x.cue(0, 0, 0, -1), BAD);
            is(x.scriptOf(0, 3), 0);
            is(x.scriptOf(1, 3), 1);
        });
        term(2, "a TOP (an ORDER) or none.", x -> {
            x.cue(0, 0, 0, 0);
            is(x.scriptOf(0, 4), -1);
            for (int kind = 0; kind < 23; kind++) {
                x.block(kind, 0);
                is(x.top(0, kind), kind <= 12 ? 1 : BAD);
                is(x.scriptOf(0, 4), kind <= 12 ? kind : -1);
                if (kind <= 12) x.take(kind);
            }
        });
    }

    private void block() {
        promise(9, "A BLOCK: its number", x -> {
            for (int i = 0; i < 30; i++) is(x.block(22 - i % 23, 0), i);
        });
        promise(9, "BAD: kind", x -> {
            for (int bad : new int[] {-1, 23, 24, MIN, MAX}) is(x.block(bad, 0), BAD);
            is(x.count(0), 0);
            is(x.block(0, 0), 0);
            is(x.block(22, 0), 1);
        });
        promise(9, "n (of a KIND without one: 0 alone is right)", x -> {
            for (int kind = 0; kind < 23; kind++) {
                int low = kind == NUMBER ? -99 : 0;
                int high = kind == NUMBER ? 99 : kind == 1 || kind == 6 ? 3 : 0;
                for (int bad : new int[] {low - 1, high + 1, MIN, MAX}) is(x.block(kind, bad), BAD);
            }
            is(x.count(0), 0);
            is(x.block(NUMBER, -99), 0);
            is(x.block(NUMBER, 99), 1);
            is(x.block(1, 3), 2);
            is(x.block(6, 3), 3);
        });
        promise(9, "FULL", x -> {
            for (int i = 0; i < 30; i++) is(x.block(0, 0), i);
            is(x.block(0, 0), FULL);
            is(x.block(NUMBER, -99), FULL);
            is(x.count(0), 30);
            is(x.of(30, 0), NO);
        });
    }

    private void join() {
        promise(10, "other comes into a HOLE of block: 1", x -> {
            x.block(IF, 0);
            for (int hole = 0; hole < 4; hole++) {
                int other = x.block(hole == 3 ? MET : IF, 0);
                is(x.join(0, hole, other), 1);
                is(x.hole(0, hole), other);
                is(x.of(other, 2), 0);
                is(x.of(other, 3), hole);
                is(x.of(other, 4), -1);
            }
        });
        promise(10, "NONE: no such BLOCKS", x -> {
            x.block(0, 0);
            x.block(0, 0);
            for (int bad : new int[] {-1, 2, 30, MIN, MAX}) {
                is(x.join(bad, 0, 1), NONE);
                is(x.join(0, 0, bad), NONE);
            }
            is(x.hole(0, 0), NONE);
        });
        promise(10, "block has no such HOLE", x -> {
            String[] holes = {"0", "0", "0", "0", "03", "03", "0", "0", "03", "034", "013", "013", "0123",
                "", "", "34", "", "3", "34", "", "34", "3", ""};
            for (int kind = 0; kind < 23; kind++) {
                BlockStage y = new BlockStage();
                y.block(kind, 0);
                int order = y.block(0, 0);
                int sharp = y.block(MET, 0);
                for (int hole = -1; hole <= 5; hole++) {
                    boolean has = holes[kind].indexOf((char) ('0' + hole)) >= 0;
                    is(y.join(0, hole, hole < 3 ? order : sharp), has ? 1 : NONE);
                    y.take(order);
                    y.take(sharp);
                }
                is(y.join(0, MIN, order), NONE);
                is(y.join(0, MAX, order), NONE);
            }
        });
    }

    private void joinRefused() {
        promise(10, "STATE: the HOLE is not empty", x -> {
            Words.blocks(x, "IF(MET)(GO)(GO) GO");
            int order = x.block(0, 0);
            int sharp = x.block(MET, 0);
            for (int hole = 0; hole < 4; hole++) is(x.join(0, hole, hole == 3 ? sharp : order), STATE);
            is(x.hole(0, 0), 4);
            x.take(4);
            is(x.join(0, 0, order), 1);
        });
        promise(10, "other is in one", x -> {
            Words.blocks(x, "REPEAT(SUM()(1))(TAKE PUT)");
            int order = x.block(0, 0);
            int set = x.block(4, 0);
            is(x.join(order, 0, 3), STATE);
            is(x.join(order, 0, 4), STATE);
            is(x.join(set, 3, 1), STATE);
            is(x.join(1, 3, 2), STATE);
            is(x.of(2, 2), 1);
        });
        promise(10, "or a TOP", x -> {
            Words.flagged(x, "GO");
            int order = x.block(0, 0);
            is(x.join(order, 0, 0), STATE);
            is(x.of(0, 4), 0);
            is(x.of(0, 2), -1);
            is(x.join(0, 0, order), 1);
        });
        promise(10, "BAD: other does not fit", x -> {
            Words.blocks(x, "IF()");
            int number = x.block(NUMBER, 0);
            int go = x.block(0, 0);
            for (int hole = 0; hole < 3; hole++) is(x.join(0, hole, number), BAD);
            is(x.join(0, 3, go), BAD);
            is(x.join(0, 3, number), BAD);
            is(x.join(x.block(SUM, 0), 4, go), BAD);
            is(x.join(x.block(LESS, 0), 4, number), 1);
            for (int hole = 0; hole < 4; hole++) is(x.hole(0, hole), NONE);
        });
        promise(10, "or would be within itself", x -> {
            x.block(IF, 0);
            for (int hole = 0; hole < 3; hole++) is(x.join(0, hole, 0), BAD);
            for (int b = 1; b < 30; b++) {
                x.block(IF, 0);
                is(x.join(b - 1, b % 3, b), 1);
            }
            for (int b = 0; b < 30; b++) is(x.join(b, b % 3, 0), BAD);
            is(x.of(0, 2), -1);
        });
    }

    private void take() {
        promise(11, "A BLOCK comes out of its HOLE", x -> {
            Words.blocks(x, "IF(MET)(GO)(GO) GO");
            int[] in = {4, 2, 3, 1};
            for (int hole = 0; hole < 4; hole++) {
                is(x.take(in[hole]), 1);
                is(x.hole(0, hole), NONE);
                is(x.of(in[hole], 2), -1);
                is(x.of(in[hole], 3), -1);
            }
        });
        promise(11, "or is no TOP any more", x -> {
            Words.flagged(x, "GO");
            is(x.take(0), 1);
            is(x.of(0, 4), -1);
            is(x.scriptOf(0, 4), -1);
            is(x.top(0, 0), 1);
        });
        promise(11, "(what is in its own HOLES stays there): 1", x -> {
            Words.flagged(x, "IF(MET)(GO)(TAKE) PUT");
            is(x.take(0), 1);
            is(x.hole(0, 3), 1);
            is(x.hole(0, 1), 2);
            is(x.hole(0, 2), 3);
            is(x.hole(0, 0), 4);
            is(x.of(4, 2), 0);
        });
        promise(11, "NONE", x -> {
            x.block(0, 0);
            for (int bad : FAR) is(x.take(bad), NONE);
            is(x.take(1), NONE);
        });
        promise(11, "STATE: it is in none", x -> {
            Words.flagged(x, "REPEAT()(GO)");
            is(x.take(1), 1);
            is(x.take(1), STATE);
            is(x.take(0), 1);
            is(x.take(0), STATE);
            is(x.take(x.block(MET, 0)), STATE);
        });
    }

    private void number() {
        promise(12, "n of a BLOCK becomes v: what it was", x -> {
            x.block(1, 2);
            x.block(6, 1);
            x.block(NUMBER, 5);
            is(x.number(0, 0), 2);
            is(x.number(0, 3), 0);
            is(x.number(1, 3), 1);
            is(x.number(1, 0), 3);
            is(x.number(2, -99), 5);
            is(x.number(2, 99), -99);
            is(x.number(2, 99), 99);
            is(x.of(0, 1), 3);
            is(x.of(1, 1), 0);
            is(x.of(2, 1), 99);
        });
        promise(12, "NONE", x -> {
            x.block(NUMBER, 0);
            for (int bad : FAR) is(x.number(bad, 0), NONE);
            is(x.number(1, 0), NONE);
        });
        promise(12, "BAD", x -> {
            x.block(1, 1);
            x.block(6, 2);
            x.block(NUMBER, 3);
            for (int bad : new int[] {-1, 4, MIN, MAX}) {
                is(x.number(0, bad), BAD);
                is(x.number(1, bad), BAD);
            }
            for (int bad : new int[] {-100, 100, MIN, MAX}) is(x.number(2, bad), BAD);
            for (int b = 0; b < 3; b++) is(x.of(b, 1), b + 1);
        });
        promise(12, "(also: its KIND has none)", x -> {
            for (int kind = 0; kind < 23; kind++) {
                x.block(kind, 0);
                boolean has = kind == 1 || kind == 6 || kind == NUMBER;
                is(x.number(kind, 0), has ? 0 : BAD);
                is(x.number(kind, 1), has ? 0 : BAD);
                is(x.of(kind, 1), has ? 1 : 0);
            }
        });
    }

    private void cue() {
        promise(13, "A SCRIPT without a TOP: its number", x -> {
            for (int s = 0; s < 6; s++) {
                is(x.cue(0, 0, 0, 0), s);
                is(x.scriptOf(s, 4), -1);
            }
        });
        promise(13, "NONE: actor is not 0 .. 2", x -> {
            for (int bad : new int[] {-1, 3, MIN, MAX}) is(x.cue(bad, 0, 0, 0), NONE);
            is(x.count(1), 0);
            is(x.cue(2, 0, 0, 0), 0);
            is(x.cue(0, 0, 0, 0), 1);
        });
        promise(13, "BAD: cap", x -> {
            for (int bad : new int[] {-1, 4, MIN, MAX}) is(x.cue(0, bad, 0, 0), BAD);
            is(x.count(1), 0);
        });
        promise(13, "c (of CALL 0 .. 3", x -> {
            for (int bad : new int[] {-1, 4, MIN, MAX}) is(x.cue(0, 1, bad, 0), BAD);
            for (int c = 0; c < 4; c++) is(x.cue(0, 1, c, 0), c);
            is(x.scriptOf(3, 2), 3);
        });
        promise(13, "of EVERY 1 .. 9", x -> {
            for (int bad : new int[] {-1, 0, 10, MIN, MAX}) is(x.cue(0, 2, bad, 0), BAD);
            is(x.cue(0, 2, 1, 0), 0);
            is(x.cue(0, 2, 9, 0), 1);
            is(x.scriptOf(1, 2), 9);
        });
        promise(13, "else 0)", x -> {
            for (int bad : new int[] {-1, 1, MIN, MAX}) {
                is(x.cue(0, 0, bad, 0), BAD);
                is(x.cue(0, 3, bad, 0), BAD);
            }
            is(x.count(1), 0);
            is(x.cue(0, 0, 0, 0), 0);
            is(x.cue(0, 3, 0, 0), 1);
        });
        promise(13, "again", x -> {
            for (int bad : new int[] {-1, 2, MIN, MAX}) is(x.cue(0, 0, 0, bad), BAD);
            is(x.cue(0, 0, 0, 1), 0);
            is(x.cue(0, 0, 0, 0), 1);
        });
        promise(13, "FULL", x -> {
            for (int s = 0; s < 6; s++) is(x.cue(2, 2, 9, 1), s);
            is(x.cue(2, 2, 9, 1), FULL);
            is(x.count(1), 6);
            is(x.scriptOf(6, 0), NO);
        });
    }

    private void top() {
        promise(14, "A BLOCK is TOP of a SCRIPT: 1", x -> {
            x.cue(0, 0, 0, 0);
            x.cue(0, 0, 0, 0);
            x.block(0, 0);
            x.block(IF, 0);
            is(x.top(1, 0), 1);
            is(x.top(0, 1), 1);
            is(x.scriptOf(1, 4), 0);
            is(x.of(0, 4), 1);
            is(x.of(1, 4), 0);
            is(x.of(1, 2), -1);
        });
        promise(14, "NONE", x -> {
            x.cue(0, 0, 0, 0);
            x.block(0, 0);
            for (int bad : new int[] {-1, 1, 6, 30, MIN, MAX}) {
                is(x.top(bad, 0), NONE);
                is(x.top(0, bad), NONE);
            }
            is(x.scriptOf(0, 4), -1);
        });
        promise(14, "STATE: the SCRIPT has one", x -> {
            Words.flagged(x, "GO");
            x.block(0, 0);
            is(x.top(0, 1), STATE);
            is(x.scriptOf(0, 4), 0);
            x.take(0);
            is(x.top(0, 1), 1);
        });
        promise(14, "or the BLOCK is in a HOLE", x -> {
            x.cue(0, 0, 0, 0);
            Words.blocks(x, "REPEAT()(GO GO)");
            is(x.top(0, 1), STATE);
            is(x.top(0, 2), STATE);
            is(x.scriptOf(0, 4), -1);
            is(x.top(0, 0), 1);
        });
        promise(14, "or a TOP", x -> {
            Words.flagged(x, "GO");
            x.cue(0, 0, 0, 0);
            is(x.top(1, 0), STATE);
            is(x.of(0, 4), 0);
            is(x.scriptOf(1, 4), -1);
            // One may stand in as TOP of another SCRIPT once it is taken.
            x.take(0);
            is(x.top(1, 0), 1);
        });
        promise(14, "BAD: it is no ORDER", x -> {
            x.cue(0, 0, 0, 0);
            for (int kind = 13; kind < 23; kind++) is(x.top(0, x.block(kind, 0)), BAD);
            is(x.scriptOf(0, 4), -1);
            is(x.top(0, x.block(12, 0)), 1);
        });
    }

    private void look() {
        promise(15, "A cell of the RUN's STAGE", x -> {
            x.actor(0, 0, 1);
            x.things(0, 0, 3);
            Words.flagged(x, "TAKE GO PUT");
            x.flag();
            is(x.look(0, 0), 3);
            x.tick(3);
            is(x.look(0, 0), 2);
            is(x.look(1, 0), 1);
        });
        promise(15, "(without a RUN: of THE BEGINNING)", x -> {
            x.actor(0, 0, 1);
            x.things(0, 0, 3);
            Words.flagged(x, "TAKE");
            is(x.look(0, 0), 3);
            x.flag();
            x.tick(1);
            x.cue(0, 0, 0, 0);
            is(x.look(0, 0), 3);
        });
        promise(15, "-1 a WALL, else its THINGS", x -> {
            x.wall(0, 0, 1);
            x.things(1, 0, 9);
            x.actor(2, 0, 0);
            is(x.look(0, 0), -1);
            is(x.look(1, 0), 9);
            is(x.look(2, 0), 0);
            x.flag();
            is(x.look(0, 0), -1);
            is(x.look(1, 0), 9);
            is(x.look(2, 0), 0);
        });
        promise(15, "-5: there is none such", x -> {
            x.stage(3, 7);
            for (int times = 0; times < 2; times++) {
                for (int bad : new int[] {-1, 7, 8, 9, MIN, MAX}) {
                    is(x.look(bad, 0), -5);
                    is(x.look(0, bad), -5);
                }
                is(x.look(3, 0), -5);
                is(x.look(2, 6), 0);
                x.flag();
            }
        });
    }

    private void hole() {
        promise(16, "What is in a HOLE of a BLOCK", x -> {
            Words.blocks(x, "LAY(1)(2) GO");
            is(x.hole(0, 3), 1);
            is(x.hole(0, 4), 2);
            is(x.hole(0, 0), 3);
        });
        promise(16, "NONE: nothing", x -> {
            x.block(IF, 0);
            for (int h = 0; h < 4; h++) is(x.hole(0, h), NONE);
            x.join(0, 0, x.block(0, 0));
            x.take(1);
            is(x.hole(0, 0), NONE);
        });
        promise(16, "-5: no such BLOCK", x -> {
            is(x.hole(0, 0), -5);
            x.block(0, 0);
            for (int bad : FAR) is(x.hole(bad, 0), -5);
            is(x.hole(1, 0), -5);
        });
        promise(16, "it has no such HOLE", x -> {
            x.block(IF, 0);
            for (int bad : new int[] {-1, 4, 5, 32, MIN, MAX}) is(x.hole(0, bad), -5);
            x.block(NUMBER, 0);
            for (int h = 0; h < 5; h++) is(x.hole(1, h), -5);
        });
    }

    private void of() {
        promise(17, "Of a BLOCK: 0 KIND", x -> {
            for (int kind = 0; kind < 23; kind++) is(x.of(x.block(kind, 0), 0), kind);
        });
        promise(17, "1 n", x -> {
            is(x.of(x.block(NUMBER, -99), 1), -99);
            is(x.of(x.block(NUMBER, 99), 1), 99);
            is(x.of(x.block(6, 3), 1), 3);
            is(x.of(x.block(MET, 0), 1), 0);
        });
        promise(17, "2 the BLOCK in whose HOLE it is (-1: none)", x -> {
            Words.flagged(x, "REPEAT(1)(GO GO)");
            int[] in = {-1, 0, 0, 2};
            for (int b = 0; b < 4; b++) is(x.of(b, 2), in[b]);
            x.take(3);
            is(x.of(3, 2), -1);
        });
        promise(17, "3 which HOLE (-1)", x -> {
            Words.flagged(x, "IF(LESS(1)(2))(GO)(GO) GO");
            int[] which = {-1, 3, 3, 4, 1, 2, 0};
            for (int b = 0; b < 7; b++) is(x.of(b, 3), which[b]);
            x.take(6);
            is(x.of(6, 3), -1);
        });
        promise(17, "4 of which SCRIPT it is TOP (-1)", x -> {
            x.cue(0, 0, 0, 0);
            Words.flagged(x, "GO GO");
            is(x.of(0, 4), 1);
            is(x.of(1, 4), -1);
            x.take(0);
            is(x.of(0, 4), -1);
        });
        promise(17, "NO", x -> {
            is(x.of(0, 0), NO);
            x.block(0, 0);
            for (int bad : FAR) is(x.of(bad, 0), NO);
            for (int bad : new int[] {-1, 5, MIN, MAX}) is(x.of(0, bad), NO);
            is(x.of(1, 0), NO);
        });
    }

    private void scriptOf() {
        promise(18, "Of a SCRIPT: 0 ACTOR, 1 CAP, 2 c, 3 AGAIN, 4 TOP (-1)", x -> {
            int[][] told = {{2, 2, 9, 1}, {0, 1, 3, 0}, {1, 3, 0, 1}};
            for (int s = 0; s < 3; s++) {
                x.cue(told[s][0], told[s][1], told[s][2], told[s][3]);
                for (int what = 0; what < 4; what++) is(x.scriptOf(s, what), told[s][what]);
                is(x.scriptOf(s, 4), -1);
            }
            x.top(1, x.block(0, 0));
            is(x.scriptOf(1, 4), 0);
        });
        promise(18, "5 whether it is AWAKE (1), LIT (2) or neither (0)", x -> {
            x.actor(0, 0, 0);
            Words.flagged(x, "WAIT WAIT");
            Words.flagged(x, "SAY(PART(1)(0))");
            Words.script(x, 0, EVERY, 2, 0, "WAIT WAIT");
            is(x.scriptOf(0, 5), 0);
            x.flag();
            for (int s = 0; s < 3; s++) is(x.scriptOf(s, 5), 0);
            x.tick(1);
            is(x.scriptOf(0, 5), 1);
            is(x.scriptOf(1, 5), 2);
            is(x.scriptOf(2, 5), 0);
            x.tick(1);
            is(x.scriptOf(0, 5), 0);
            is(x.scriptOf(1, 5), 2);
            is(x.scriptOf(2, 5), 1);
            x.cue(0, 0, 0, 0);
            for (int s = 0; s < 4; s++) is(x.scriptOf(s, 5), 0);
        });
        promise(18, "6 the BLOCK at which it is, of LIT ones was (-1)", x -> {
            x.actor(0, 0, 0);
            Words.flagged(x, "WAIT WAIT SAY(PART(1)(0)) WAIT");
            is(x.scriptOf(0, 6), -1);
            x.flag();
            is(x.scriptOf(0, 6), -1);
            x.tick(1);
            is(x.scriptOf(0, 6), 1);
            x.tick(1);
            is(x.scriptOf(0, 6), 2);
            x.tick(1);
            is(x.scriptOf(0, 6), 2);
            x.tick(9);
            is(x.scriptOf(0, 6), 2);
            x.number(4, 2);
            is(x.scriptOf(0, 6), -1);
        });
        promise(18, "7 the refusal by which it is LIT (0)", x -> {
            x.actor(0, 0, 0);
            Words.flagged(x, "WAIT SAY(ITEM(0))");
            Words.flagged(x, "MAKE(-1)");
            is(x.scriptOf(0, 7), 0);
            x.flag();
            is(x.scriptOf(0, 7), 0);
            x.tick(1);
            is(x.scriptOf(0, 7), 0);
            is(x.scriptOf(1, 7), -14);
            x.tick(5);
            is(x.scriptOf(0, 7), -11);
            is(x.scriptOf(1, 7), -14);
            x.stage(1, 1);
            is(x.scriptOf(0, 7), 0);
        });
        promise(18, "NO", x -> {
            is(x.scriptOf(0, 0), NO);
            x.cue(0, 0, 0, 0);
            for (int times = 0; times < 2; times++) {
                for (int bad : new int[] {-1, 1, 6, 30, MIN, MAX}) {
                    for (int what = 0; what < 8; what++) is(x.scriptOf(bad, what), NO);
                }
                for (int bad : new int[] {-1, 8, MIN, MAX}) is(x.scriptOf(0, bad), NO);
                x.flag();
            }
        });
    }
}
