/** Promises 25 to 28 and Term 4: the tape, wishes, marks. */
final class WishEdges extends Edges {
    private static final String LONGEST = "always x0=-999";

    WishEdges(Doc doc) {
        super(doc);
    }

    void run() {
        termParts();
        termFields();
        termFaults();
        termMarked();
        termLost();
        feed();
        wish();
        mark();
        fails();
    }

    /** A text with a fault at a place. */
    private void fault(String text, int place) {
        BlockStage x = new BlockStage();
        is(Kinds.wish(x, text), -10 - place);
        is(x.count(6), 0);
        is(x.count(7), 0);
    }

    private void right(String text, int parts) {
        BlockStage x = new BlockStage();
        is(Kinds.wish(x, text), parts);
        is(x.count(7), parts);
    }

    /** A wish is marked by t ticks: -1 if it is right, else when it is lost. */
    private void marked(BlockStage x, String wish, int t, int lost) {
        is(Kinds.wish(x, wish) > 0 ? 1 : 0, 1);
        is(x.mark(t), lost < 0 ? 1 : 0);
        is(x.fails(1), lost);
    }

    /** Actor 0 goes east by one a tick, from x 0 on, on one kept stage of 8 by 1. */
    private static BlockStage walker() {
        BlockStage x = new BlockStage();
        x.stage(8, 1);
        x.actor(0, 0, 1);
        x.keep();
        Words.script(x, 0, EVERY, 1, 0, "GO");
        return x;
    }

    private void termParts() {
        term(4, "A WISH is read from THE TAPE (bytes, 80 at most):", x -> {
            String four = LONGEST + " and " + LONGEST + " and " + LONGEST + " and " + LONGEST;
            is(Kinds.wish(x, four), 4);
            is(four.length(), 71);
            Kinds.feed(x, four + "123456789");
            is(x.count(6), 80);
            is(x.feed('1', 1), FULL);
            is(x.wish(), -10 - 71);
            is(x.wish(), -10);
        });
        term(4, "a PART, or up to 4 with and between", x -> {
            String text = "end g=1";
            for (int parts = 1; parts <= 5; parts++) {
                is(Kinds.wish(x, text), parts <= 4 ? parts : -10 - 43);
                text = text + " and end g=1";
            }
            is(x.count(7), 4);
            fault("", 0);
            fault("end g=1 end g=1", 8);
            fault("end g=1 and", 11);
            fault("end g=1 and and end g=1", 13);
            fault("and end g=1", 1);
            fault("end g=1 or end g=1", 8);
        });
        term(4, "one blank on each side", x -> {
            right("end g=1 and end g=1", 2);
            fault("end g=1  and end g=1", 8);
            fault("end g=1 and  end g=1", 12);
            fault("end g=1and end g=1", 7);
            fault("end g=1 andend g=1", 11);
            fault("end g=1\tand end g=1", 7);
            fault("end g=1 ", 8);
            fault(" end g=1", 0);
        });
        term(4, "a PART: WHEN blank FIELD OP NUMBER.", x -> {
            right("end x0=1", 1);
            fault("endx0=1", 3);
            fault("end  x0=1", 4);
            fault("end x0 =1", 6);
            fault("end x0= 1", 7);
            fault("end =1", 4);
            fault("end x01", 6);
            fault("x0=1 end", 0);
        });
        term(4, "WHEN: end always never once.", x -> {
            for (String when : new String[] {"end", "always", "never", "once"}) {
                right(when + " g=1", 1);
                for (int i = 0; i < when.length(); i++) {
                    fault(when.substring(0, i), i);
                    fault(when.substring(0, i) + "z" + when.substring(i + 1) + " g=1", i);
                }
                fault(when + when + " g=1", when.length());
                fault(when.toUpperCase() + " g=1", 0);
            }
        });
    }

    private void termFields() {
        term(4, "FIELD: one of x y v h b (VALUE v, HEADING h, BUMPED b) and the number of an ACTOR (0 .. 2)", x -> {
            x.stage(4, 3);
            x.actor(1, 1, 0);
            x.actor(3, 2, 1);
            x.actor(0, 0, 3);
            x.keep();
            Words.script(x, 1, FLAG, 0, 0, "GO SET(-7)");
            Words.script(x, 2, FLAG, 0, 0, "GO GO SET(8)");
            String[] fields = {"x0", "y0", "v0", "h0", "b0", "x1", "y1", "v1", "h1", "b1", "x2", "y2", "v2", "h2", "b2"};
            int[] due = {1, 1, 0, 0, 0, 3, 2, -7, 1, 1, 0, 0, 8, 3, 2};
            for (int i = 0; i < fields.length; i++) {
                marked(x, "end " + fields[i] + "=" + due[i], 3, -1);
                marked(x, "end " + fields[i] + "=" + (due[i] + 1), 3, 3);
            }
            for (String field : new String[] {"x3", "x-1", "x", "xx", "v9", "b/", "h:"}) fault("end " + field + "=1", 5);
            for (String field : new String[] {"a0", "X0", "0x", "w0"}) fault("end " + field + "=1", 4);
        });
        term(4, "or g (all THINGS on the STAGE)", x -> {
            x.stage(8, 8);
            for (int i = 0; i < 64; i++) x.things(i % 8, i / 8, 9);
            x.actor(7, 7, 0);
            x.keep();
            Words.script(x, 0, EVERY, 1, 0, "TAKE");
            marked(x, "end g=575", 1, -1);
            marked(x, "end g=567 and once g=576", 40, -1);
            marked(x, "never g<576", 1, 1);
            fault("end g0=1", 5);
        });
        term(4, "or s (how often was SAID)", x -> {
            x.actor(0, 0, 0);
            x.keep();
            for (int s = 0; s < 6; s++) Words.script(x, 0, EVERY, 1, 0, "SAY");
            // Beyond the 50 that are kept too.
            marked(x, "end s=240 and once s=0", 40, -1);
            marked(x, "always s<240", 40, 40);
            marked(x, "never s=54", 40, 9);
            fault("end s0=1", 5);
        });
        term(4, "OP: < = >.", x -> {
            String[] ops = {"<", "=", ">"};
            for (int n = 2; n <= 4; n++) {
                for (int op = 0; op < 3; op++) {
                    boolean so = op == 0 ? 3 < n : op == 1 ? 3 == n : 3 > n;
                    marked(walker(), "end x0" + ops[op] + n, 3, so ? -1 : 3);
                }
            }
            fault("end x0<=1", 7);
            fault("end x0!1", 6);
            fault("end x0;1", 6);
            fault("end x0?1", 6);
            // VALUE at the ends of the ints is neither less nor more by a wrap.
            x.actor(0, 0, 0);
            x.keep();
            Words.script(x, 0, EVERY, 1, 0, "SET(SUM(SUM(MINE)(MINE))(1))");
            marked(x, "end v0>999 and never v0<0", 31, -1);
            x.things(0, 0, 9);
            x.keep();
            Words.script(x, 0, EVERY, 1, 0, "TAKE");
            marked(x, "end v0=-1", 32, 32);
            BlockStage y = new BlockStage();
            y.actor(0, 0, 0);
            y.keep();
            Words.flagged(y, "SET(1)");
            Words.script(y, 0, EVERY, 1, 0, "SET(SUM(MINE)(MINE))");
            marked(y, "end v0<-999 and never v0=-999", 31, -1);
            marked(y, "end v0>999", 31, 31);
            marked(y, "end v0=0", 32, -1);
        });
        term(4, "NUMBER: perhaps -, 1 to 3 digits.", x -> {
            String[] good = {"0", "9", "10", "99", "100", "999", "-0", "-9", "-99", "-999", "000", "007", "-001"};
            for (String number : good) {
                right("end g=" + number, 1);
                right("end g=" + number + " and end g=" + number, 2);
            }
            fault("end g=", 6);
            fault("end g=-", 7);
            fault("end g=--1", 7);
            fault("end g=+1", 6);
            fault("end g=1000", 9);
            fault("end g=-1000", 10);
            fault("end g=0000", 9);
            fault("end g=1-", 7);
            fault("end g=/", 6);
            fault("end g=:", 6);
            fault("end g=- and end g=1", 7);
            // What they tell: digits by tens, with zeros ahead too.
            x.things(0, 0, 7);
            x.keep();
            marked(x, "end g=007 and end g=7 and end g>-999 and end g<999", 1, -1);
            x.stage(8, 8);
            for (int i = 0; i < 64; i++) x.things(i % 8, i / 8, i < 13 ? 9 : i == 13 ? 6 : 0);
            BlockStage y = new BlockStage();
            y.stage(8, 2);
            for (int i = 0; i < 14; i++) y.things(i % 8, i / 8, i < 13 ? 9 : 6);
            y.keep();
            marked(y, "end g=123 and end g>122 and end g<124 and end g>-123", 1, -1);
        });
    }

    private void termFaults() {
        term(4, "The FAULT is the place of the first byte with which none begins so (the end of THE TAPE, if it ends too early).", x -> {
            String text = "never v2<-12 and once g>0";
            for (int i = 0; i < text.length(); i++) {
                boolean whole = i == 11 || i == 12;
                if (whole) right(text.substring(0, i), 1);
                else fault(text.substring(0, i), i);
                // A byte that never stands in a wish, the least and the greatest one too.
                for (char bad : new char[] {0, '#', 127, 128, 255}) fault(text.substring(0, i) + bad + text.substring(i + 1), i);
                fault(text.substring(0, i) + bad(text, i), i);
            }
            right(text, 2);
            fault(text + "\0", 25);
            fault(text + "00a", 27);
            is(Kinds.wish(x, "end x0=1 and"), -10 - 12);
            is(Kinds.wish(x, "end x0=1 and "), -10 - 13);
        });
        term(4, "A test of an ACTOR that is not there is not so.", x -> {
            for (String op : new String[] {"<", "=", ">"}) {
                for (String field : new String[] {"x", "y", "v", "h", "b"}) {
                    BlockStage y = walker();
                    String test = field + "1" + op + "0";
                    marked(y, "end " + test, 2, 2);
                    marked(y, "always " + test, 2, 0);
                    marked(y, "once " + test, 2, 2);
                    marked(y, "never " + test, 2, -1);
                }
            }
            marked(walker(), "once x2>-999", 1, 1);
            x.keep();
            x.actor(0, 0, 0);
            x.keep();
            marked(x, "once x0=0", 3, 3);
            is(x.fails(0), 0);
        });
    }

    /** Another capital letter than none: a byte that no place of a wish takes. */
    private static String bad(String text, int i) {
        return String.valueOf((char) ('A' + i));
    }

    private void termMarked() {
        term(4, "MARKED by T TICKS (1 .. 40):", x -> {
            BlockStage y = walker();
            for (int bad : new int[] {0, -1, 41, MIN, MAX}) is(y.mark(bad), BAD);
            Kinds.wish(y, "end b0=33");
            is(y.mark(40), 1);
            Kinds.wish(y, "end x0=1");
            is(y.mark(1), 1);
            is(y.mark(40), 0);
        });
        term(4, "on each KEPT STAGE the program is run by T TICKS", x -> {
            for (int k = 0; k < 4; k++) {
                x.stage(8, 1);
                x.actor(k, 0, 1);
                x.keep();
            }
            x.stage(1, 1);
            Words.script(x, 0, EVERY, 1, 0, "GO");
            for (int k = 0; k < 4; k++) {
                Kinds.wish(x, "never x0=" + (k + 4));
                is(x.mark(1), k == 0 ? 0 : 1);
                is(x.fails(0), k == 0 ? 3 : -1);
                is(x.mark(4), 0);
                is(x.fails(0), k);
                is(x.fails(1), 4);
            }
        });
        term(4, "RIGHT if on each all PARTS hold, over TICK 0 (the beginning) to T:", x -> {
            BlockStage y = walker();
            marked(y, "once x0=0 and once x0=5 and never x0=6 and end x0=5", 5, -1);
            marked(y, "once x0=0 and once x0=6 and never x0=6 and end x0=5", 5, 5);
            marked(y, "never x0=0 and end x0=5", 5, 0);
            marked(y, "end x0=5 and always x0>0", 5, 0);
            y.stage(8, 1);
            y.actor(1, 0, 1);
            y.keep();
            marked(y, "once x0=1", 5, -1);
            marked(y, "once x0=0", 5, 5);
            is(y.fails(0), 1);
        });
        term(4, "RIGHT if on each all PARTS hold", x -> {
            // The PARTS of one WHEN too: of each row of four just one is not so, or all are.
            String[] whens = {"end", "always", "never", "once"};
            String[] so = {"x0=5", "x0<9", "x0=6", "x0=4"};
            String[] not = {"x0=4", "x0<5", "x0=5", "x0=6"};
            for (int when = 0; when < 4; when++) {
                for (int parts = 1; parts <= 4; parts++) {
                    for (int bad = -1; bad < parts; bad++) {
                        StringBuilder wish = new StringBuilder();
                        for (int i = 0; i < parts; i++) {
                            if (i > 0) wish.append(" and ");
                            wish.append(whens[when]).append(' ').append(i == bad ? not[when] : so[when]);
                        }
                        marked(walker(), wish.toString(), 5, bad < 0 ? -1 : 5);
                    }
                }
            }
            // Of several that are broken, the one that is broken first tells when.
            marked(walker(), "always x0<4 and always x0<3 and always x0<5", 6, 3);
            marked(walker(), "never x0=4 and never x0=3 and never x0=5", 6, 3);
            marked(walker(), "always x0<4 and never x0=2 and once x0=9 and end x0=9", 6, 2);
        });
        term(4, "end: so at T", x -> {
            for (int t = 1; t <= 9; t++) marked(walker(), "end x0=4", t, t == 4 ? -1 : t);
        });
        term(4, "always: at all", x -> {
            for (int t = 1; t <= 9; t++) marked(walker(), "always x0<4", t, t < 4 ? -1 : 4);
            marked(walker(), "always x0>0", 5, 0);
        });
        term(4, "never: at none", x -> {
            for (int t = 1; t <= 9; t++) marked(walker(), "never x0=4", t, t < 4 ? -1 : 4);
            marked(walker(), "never x0=0", 5, 0);
        });
        term(4, "once: at one or more.", x -> {
            for (int t = 1; t <= 9; t++) marked(walker(), "once x0=4", t, t < 4 ? t : -1);
            marked(walker(), "once x0=0", 5, -1);
            marked(walker(), "once x0<9", 5, -1);
        });
    }

    private void termLost() {
        term(4, "It FAILS on the least KEPT STAGE on which one does not", x -> {
            for (int k = 0; k < 4; k++) {
                x.things(0, 0, k);
                x.keep();
            }
            for (int k = 0; k < 4; k++) {
                marked(x, "never g=" + k, 1, 0);
                is(x.fails(0), k);
            }
            marked(x, "end g<2", 3, 3);
            is(x.fails(0), 2);
            marked(x, "end g>2", 3, 3);
            is(x.fails(0), 0);
            // The least STAGE counts, though another one is lost at an earlier TICK.
            marked(x, "end g>0 and always g<3", 3, 3);
            is(x.fails(0), 0);
            marked(x, "end g<4", 3, -1);
            is(x.fails(0), -1);
        });
        term(4, "LOST at the least TICK at which one is so lost", x -> {
            marked(walker(), "end x0=9 and once x0=9 and never x0=3 and always x0<2", 6, 2);
            marked(walker(), "always x0<5 and never x0=3 and end x0=9", 6, 3);
            marked(walker(), "end x0=9 and once x0=9 and never x0=6 and always x0<9", 6, 6);
            marked(walker(), "once x0=9 and never x0=0", 6, 0);
        });
        term(4, "(always, never: the first TICK that breaks it; end, once: T).", x -> {
            marked(walker(), "always x0<3", 9, 3);
            marked(walker(), "never x0>2", 9, 3);
            marked(walker(), "never x0=3", 9, 3);
            marked(walker(), "end x0=3", 9, 9);
            marked(walker(), "end x0=3", 2, 2);
            marked(walker(), "once x0=9", 9, 9);
            marked(walker(), "once x0=9", 40, 40);
        });
    }

    private void feed() {
        promise(25, "THE TAPE gets the n lowest bytes of a number, the highest of these first", x -> {
            x.feed(('e' << 24) | ('n' << 16) | ('d' << 8) | ' ', 4);
            x.feed(0x7a7a0000 | ('g' << 8) | '=', 2);
            x.feed(0x7a7a7a00 | '-', 1);
            x.feed(0xff000000 | ('9' << 16) | ('8' << 8) | '7', 3);
            is(x.wish(), 1);
            x.feed(('d' << 24) | ('n' << 16) | ('e' << 8) | ' ', 4);
            is(x.wish(), -10);
            // A byte of 128 and more is itself, whatever stands above it.
            x.feed('e' << 24 | 0x00ee6e64, 4);
            is(x.wish(), -11);
        });
        promise(25, "(n 0 .. 4): how many it has", x -> {
            int has = 0;
            for (int n = 0; n <= 4; n++) {
                has += n;
                is(x.feed(-1, n), has);
                is(x.count(6), has);
            }
            is(x.feed(-1, 0), 10);
            // What is fed stays, whatever else is called.
            BlockStage y = walker();
            Kinds.wish(y, "end x0=1");
            Kinds.feed(y, "end ");
            y.mark(1);
            y.least(1);
            y.flag();
            y.tick(1);
            y.back(1);
            y.write(0);
            y.act(0, 0, 1);
            y.use(0);
            y.take(0);
            y.stage(1, 1);
            y.sheet(0, 0, 1);
            is(y.count(6), 4);
            Kinds.feed(y, "g=0 and end s=0");
            is(y.wish(), 2);
        });
        promise(25, "BAD", x -> {
            x.feed(0, 3);
            for (int bad : new int[] {-1, 5, 8, MIN, MAX}) is(x.feed(0, bad), BAD);
            is(x.count(6), 3);
            for (int i = 0; i < 19; i++) x.feed(0, 4);
            x.feed(0, 1);
            is(x.count(6), 80);
            for (int bad : new int[] {-1, 5, MIN, MAX}) is(x.feed(0, bad), BAD);
        });
        promise(25, "FULL", x -> {
            for (int i = 1; i <= 19; i++) is(x.feed(0, 4), 4 * i);
            is(x.feed(0, 2), 78);
            is(x.feed(0, 3), FULL);
            is(x.feed(0, 4), FULL);
            is(x.count(6), 78);
            is(x.feed(0, 2), 80);
            for (int n = 1; n <= 4; n++) is(x.feed(0, n), FULL);
            is(x.feed(0, 0), 80);
            x.wish();
            is(x.feed(0, 4), 4);
        });
    }

    private void wish() {
        promise(26, "THE TAPE, which is empty then, is THE WISH: how many PARTS", x -> {
            Kinds.feed(x, "end g=0 and end s=0 and end g=1");
            is(x.count(6), 31);
            is(x.wish(), 3);
            is(x.count(6), 0);
            is(x.count(7), 3);
            is(x.feed('e', 1), 1);
            is(x.wish(), -11);
            is(Kinds.wish(x, "end g=0"), 1);
            is(x.count(7), 1);
            x.keep();
            is(x.mark(1), 1);
        });
        promise(26, "-10 less the FAULT", x -> {
            is(x.wish(), -10);
            is(Kinds.wish(x, "x"), -10);
            is(Kinds.wish(x, "end"), -13);
            String text = "end g=1 and end g=1 and end g=1 and end g=1";
            is(Kinds.wish(x, text + " "), -10 - 43);
            StringBuilder long_ = new StringBuilder(text);
            while (long_.length() < 80) long_.append('9');
            is(Kinds.wish(x, long_.toString()), -10 - 45);
        });
        promise(26, "(THE WISH stays, THE TAPE is empty, too)", x -> {
            x.keep();
            is(Kinds.wish(x, "always g=0 and end s=0"), 2);
            Kinds.feed(x, "never g=0 and never s=0 and never x0=0!");
            is(x.count(6), 39);
            is(x.wish(), -10 - 38);
            is(x.count(6), 0);
            is(x.count(7), 2);
            is(x.mark(1), 1);
            is(x.wish(), -10);
            is(x.count(7), 2);
            is(x.mark(1), 1);
            is(Kinds.wish(x, "never g=0"), 1);
            is(Kinds.wish(x, "end g"), -15);
            is(x.count(7), 1);
            is(x.mark(1), 0);
        });
    }

    private void mark() {
        promise(27, "MARKED: 1 RIGHT, 0 not.", x -> {
            BlockStage y = walker();
            Kinds.wish(y, "end x0=4");
            for (int t = 1; t <= 40; t++) is(y.mark(t), t == 4 ? 1 : 0);
        });
        promise(27, "(The RUN stays.)", x -> {
            BlockStage y = walker();
            Kinds.wish(y, "end x0=4");
            y.flag();
            y.tick(2);
            is(y.mark(4), 1);
            is(y.mark(40), 0);
            is(y.count(4), 2);
            is(y.who(0, 0), 2);
            is(y.tick(1), 3);
            is(y.who(0, 0), 3);
            is(y.back(3), 0);
            is(y.who(0, 0), 0);
            // And where there is none, there is none then.
            y.take(0);
            is(y.mark(4), 0);
            is(y.count(4), -1);
        });
        promise(27, "BAD: t", x -> {
            for (int bad : new int[] {0, -1, 41, MIN, MAX}) is(x.mark(bad), BAD);
            x.keep();
            Kinds.wish(x, "end g=0");
            for (int bad : new int[] {0, -1, 41, MIN, MAX}) is(x.mark(bad), BAD);
            is(x.mark(1), 1);
            is(x.mark(40), 1);
        });
        promise(27, "STATE: no WISH", x -> {
            x.keep();
            is(x.mark(1), STATE);
            is(Kinds.wish(x, "end g"), -15);
            is(x.mark(40), STATE);
            Kinds.wish(x, "end g=0");
            is(x.mark(1), 1);
        });
        promise(27, "no KEPT STAGES", x -> {
            Kinds.wish(x, "end g=0");
            is(x.mark(1), STATE);
            is(x.mark(40), STATE);
            x.keep();
            is(x.mark(1), 1);
        });
    }

    private void fails() {
        promise(28, "Of the latest mark() that was told", x -> {
            BlockStage y = walker();
            Kinds.wish(y, "end x0=4");
            y.mark(3);
            is(y.fails(1), 3);
            y.mark(5);
            is(y.fails(1), 5);
            is(y.mark(0), BAD);
            is(y.mark(41), BAD);
            is(y.fails(1), 5);
            is(y.least(4), 0);
            is(y.fails(1), 5);
            y.stage(1, 1);
            y.take(0);
            y.flag();
            Kinds.wish(y, "end x0=0");
            is(y.fails(0), 0);
            is(y.fails(1), 5);
            y.mark(1);
            is(y.fails(1), -1);
        });
        promise(28, ": on which KEPT STAGE it FAILS (what 0), when it is LOST (1)", x -> {
            for (int k = 0; k < 4; k++) {
                x.things(0, 0, k);
                x.actor(0, 0, 0);
                x.keep();
            }
            Words.script(x, 0, EVERY, 1, 0, "TAKE");
            for (int k = 1; k < 4; k++) {
                Kinds.wish(x, "never v0=" + k);
                is(x.mark(9), 0);
                is(x.fails(0), k);
                is(x.fails(1), k);
            }
        });
        promise(28, "-1: it does not", x -> {
            x.keep();
            Kinds.wish(x, "end g=1");
            x.mark(1);
            is(x.fails(0), 0);
            is(x.fails(1), 1);
            Kinds.wish(x, "end g=0");
            x.mark(1);
            is(x.fails(0), -1);
            is(x.fails(1), -1);
        });
        promise(28, "STATE: there was none", x -> {
            is(x.fails(0), STATE);
            is(x.fails(1), STATE);
            is(x.fails(2), STATE);
            x.mark(0);
            x.mark(1);
            x.keep();
            x.mark(1);
            is(x.fails(0), STATE);
            Kinds.wish(x, "end g=0");
            x.least(1);
            is(x.fails(0), STATE);
            x.mark(1);
            is(x.fails(0), -1);
        });
        promise(28, "BAD: what", x -> {
            x.keep();
            Kinds.wish(x, "end g=0");
            x.mark(1);
            for (int bad : new int[] {-1, 2, MIN, MAX}) is(x.fails(bad), BAD);
        });
    }
}
