/** Promises 29 and 30 and what Term 5 says of changes. */
final class LeastEdges extends Edges {
    LeastEdges(Doc doc) {
        super(doc);
    }

    void run() {
        termOut();
        termNumbers();
        termAbout();
        termLeast();
        least();
        leastRefused();
        hint();
    }

    /** The least changes by t, block and change of each. */
    private void hints(BlockStage x, int t, int... due) {
        is(x.least(t), due.length / 2);
        for (int i = 0; i < due.length; i++) is(x.hint(i / 2, i % 2), due[i]);
        for (int i = due.length / 2; i < 3; i++) is(x.hint(i, 0), -5);
    }

    /** An object with actor 0 at 0, 0 to the east on one kept stage of 8 by 2, and what the words tell. */
    private static BlockStage flagged(String words) {
        BlockStage x = new BlockStage();
        x.stage(8, 2);
        x.actor(0, 0, 1);
        x.keep();
        Words.flagged(x, words);
        return x;
    }

    private void termOut() {
        term(5, "CHANGES of a BLOCK: 0 OUT: of an ORDER that is in a HOLE, or a TOP:", x -> {
            BlockStage top = flagged("GO");
            Kinds.wish(top, "end x0=0");
            hints(top, 1, 0, 0);
            BlockStage next = flagged("WAIT GO");
            Kinds.wish(next, "end x0=0");
            hints(next, 2, 1, 0);
            BlockStage body = flagged("REPEAT(1)(GO)");
            Kinds.wish(body, "end x0=0 and never s=1");
            // The TOP goes out ahead of what is in its BODY.
            hints(body, 2, 0, 0);
            // A ROUND cannot go out: SET would set 0 then.
            BlockStage round = new BlockStage();
            round.things(0, 0, 1);
            round.actor(0, 0, 1);
            round.keep();
            Words.flagged(round, "TAKE SET(5)");
            Kinds.wish(round, "end v0=0 and end g=0");
            is(round.least(2), NONE);
            BlockStage sharp = flagged("IF(NOT)()(GO)");
            Kinds.wish(sharp, "end x0=1");
            is(sharp.least(2), NONE);
        });
        term(5, "what is in its NEXT stands in its place", x -> {
            BlockStage top = flagged("WAIT GO");
            Kinds.wish(top, "end x0=1");
            hints(top, 1, 0, 0);
            BlockStage body = flagged("REPEAT(1)(WAIT GO)");
            Kinds.wish(body, "end x0=1");
            hints(body, 2, 2, 0);
            BlockStage third = flagged("GO WAIT GO");
            Kinds.wish(third, "end x0=2");
            hints(third, 2, 1, 0);
            BlockStage other = flagged("IF()()(WAIT SET(5))");
            Kinds.wish(other, "end v0=5");
            hints(other, 2, 1, 0);
        });
        term(5, "it is in none then, its NEXT empty.", x -> {
            // Out of the way it is in none: a second OUT of the same one is none.
            BlockStage y = flagged("GO GO GO");
            Kinds.wish(y, "end x0=1");
            hints(y, 9, 0, 0, 1, 0);
            Kinds.wish(y, "end x0=0");
            is(y.least(9), NONE);
            // Its BODY goes with it, its NEXT does not.
            BlockStage shell = flagged("REPEAT(3)(GO) SAY");
            Kinds.wish(shell, "end x0=0 and end s=1");
            hints(shell, 9, 0, 0);
        });
    }

    private void termNumbers() {
        term(5, "1, 2: n is one less, more: of TURN (modulo 4)", x -> {
            for (int n = 0; n < 4; n++) {
                for (int h = 0; h < 4; h++) {
                    BlockStage y = new BlockStage();
                    y.actor(0, 0, 0);
                    y.keep();
                    Words.flagged(y, "TURN" + n + " SAY");
                    int t = 2;
                    Kinds.wish(y, "end h0=" + h + " and end s=1");
                    // To be turned by one less or one more is one change, by two is two, if OUT is none.
                    int by = Math.floorMod(h - n, 4);
                    if (by == 0) hints(y, t);
                    else if (h == 0) hints(y, t, 0, 0);
                    else if (by == 3) hints(y, t, 0, 1);
                    else if (by == 1) hints(y, t, 0, 2);
                    else hints(y, t, 0, 1, 0, 1);
                }
            }
            BlockStage call = flagged("CALL1");
            Words.script(call, 0, CALLED, 2, 0, "SAY");
            Kinds.wish(call, "end s=1");
            is(call.least(2), NONE);
        });
        term(5, "of NUMBER (within -99 .. 99).", x -> {
            BlockStage y = flagged("SAY SET(98)");
            int[][] due = {{98, 97, 1}, {98, 99, 2}, {-98, -99, 1}, {-98, -97, 2}, {99, 98, 1}, {-99, -98, 2}, {1, 2, 2}};
            for (int[] d : due) {
                y.number(2, d[0]);
                Kinds.wish(y, "end v0=" + d[1]);
                hints(y, 2, 2, d[2]);
            }
            int[][] beyond = {{99, 100}, {99, 101}, {98, 100}, {-99, -100}, {-99, -101}, {-98, -100}};
            for (int[] b : beyond) {
                y.number(2, b[0]);
                Kinds.wish(y, "end v0=" + b[1]);
                is(y.least(2), NONE);
            }
        });
    }

    /** As flagged, on 2 by 1 with one THING in the cell of actor 0: TAKE has to come ahead of GO. */
    private static BlockStage taker(String words) {
        BlockStage x = new BlockStage();
        x.stage(2, 1);
        x.things(0, 0, 1);
        x.actor(0, 0, 1);
        x.keep();
        Words.flagged(x, words);
        Kinds.wish(x, "end v0=1 and end x0=1");
        return x;
    }

    private void termAbout() {
        term(5, "3 ABOUT: of an ORDER with a BLOCK in its NEXT, itself in a HOLE, or a TOP:", x -> {
            hints(taker("GO TAKE"), 2, 0, 3);
            hints(taker("WAIT GO TAKE"), 3, 1, 3);
            hints(taker("REPEAT(1)(GO TAKE)"), 3, 2, 3);
            hints(taker("IF(NOT)(GO TAKE)"), 3, 2, 3);
            hints(taker("IF()()(GO TAKE)"), 3, 1, 3);
            // Without a BLOCK in its NEXT there is no ABOUT.
            BlockStage single = taker("GO TAKE");
            single.take(1);
            is(single.least(2), NONE);
            // In none itself it has none either.
            BlockStage loose = taker("GO TAKE");
            loose.take(0);
            is(loose.least(2), NONE);
            // What is in its BODY is not in its NEXT: GO goes nowhere, IF goes behind TAKE.
            hints(taker("IF(NOT)(GO) TAKE"), 3, 0, 3);
        });
        term(5, "that one stands in its place, it in that one's NEXT, what was there in its NEXT.", x -> {
            String[] words = {"GO TAKE SAY", "REPEAT(1)(GO TAKE SAY)", "IF()()(GO TAKE SAY)"};
            int[] go = {0, 2, 1};
            for (int i = 0; i < 3; i++) {
                BlockStage y = taker(words[i]);
                Kinds.wish(y, "end v0=1 and end x0=1 and end s=1");
                hints(y, i == 0 ? 3 : 4, go[i], 3);
            }
            // With nothing there, nothing is in its NEXT then: the row ends behind it.
            BlockStage turned = taker("GO TAKE");
            Kinds.wish(turned, "end v0=1 and end x0=1 and end b0=0");
            hints(turned, 9, 0, 3);
            // The second ABOUT meets the row as the first one left it: GO behind WAIT, then behind TAKE.
            BlockStage twice = taker("GO WAIT TAKE SAY");
            Kinds.wish(twice, "end v0=1 and end x0=1 and end s=1 and never s=2");
            hints(twice, 4, 0, 3, 0, 3);
        });
    }

    private void termLeast() {
        term(5, "LEAST: the fewest CHANGES one behind the other, 2 at most, by which it is RIGHT by T", x -> {
            BlockStage y = flagged("SAY SET(5)");
            int[][] due = {{5, 0}, {4, 1}, {6, 1}, {3, 2}, {7, 2}, {2, NONE}, {8, NONE}, {0, 1}};
            for (int[] d : due) {
                Kinds.wish(y, "end v0=" + d[0] + " and end s=1");
                is(y.least(2), d[1]);
            }
            // By another T the fewest are others.
            Kinds.wish(y, "end v0=0");
            is(y.least(1), 0);
            is(y.least(2), 1);
        });
        term(5, "of several rows the first: by the BLOCK, then the CHANGE, of the first one", x -> {
            BlockStage y = flagged("GO GO GO GO");
            Kinds.wish(y, "end x0=3");
            hints(y, 9, 0, 0);
            BlockStage rounds = new BlockStage();
            rounds.actor(0, 0, 1);
            rounds.keep();
            rounds.block(13, 1);
            rounds.block(13, 1);
            rounds.block(15, 0);
            rounds.block(4, 0);
            rounds.join(2, 3, 1);
            rounds.join(2, 4, 0);
            rounds.join(3, 3, 2);
            rounds.cue(0, 0, 0, 0);
            rounds.top(0, 3);
            Kinds.wish(rounds, "end v0=1");
            hints(rounds, 1, 0, 1);
            Kinds.wish(rounds, "end v0=3");
            hints(rounds, 1, 0, 2);
            // OUT ahead of one less, one less ahead of one more.
            BlockStage turn = flagged("TURN3");
            Kinds.wish(turn, "never h0=0");
            hints(turn, 1, 0, 0);
            BlockStage either = flagged("TURN1 GO");
            Kinds.wish(either, "never h0=2 and end x0=0");
            hints(either, 1, 0, 1);
        });
        term(5, "then so of the second one.", x -> {
            BlockStage y = flagged("GO GO GO GO");
            Kinds.wish(y, "end x0=2");
            hints(y, 9, 0, 0, 1, 0);
            BlockStage rounds = flagged("SET(SUM(1)(1)) SAY");
            Kinds.wish(rounds, "end v0=4 and end s=1");
            hints(rounds, 2, 2, 2, 2, 2);
            BlockStage turn = flagged("SAY TURN1");
            Kinds.wish(turn, "end h0=0 and end s=1");
            hints(turn, 2, 1, 1, 1, 1);
            BlockStage mixed = flagged("TURN1 SAY(5)");
            Kinds.wish(mixed, "end h0=0 and end s=0");
            // The first one is OUT of TURN, which is loose then and can still be turned: no help.
            is(mixed.least(2), NONE);
            BlockStage two = flagged("SET(5) GO SAY");
            Kinds.wish(two, "end v0=4 and end x0=0 and end s=1");
            hints(two, 9, 1, 1, 2, 0);
        });
    }

    private void least() {
        promise(29, "LEAST: how many CHANGES", x -> {
            BlockStage y = flagged("SAY SET(5)");
            for (int v = 3; v <= 7; v++) {
                Kinds.wish(y, "end v0=" + v);
                is(y.least(2), Math.abs(v - 5));
                is(y.mark(2), v == 5 ? 1 : 0);
            }
        });
        promise(29, "NONE: none such row", x -> {
            BlockStage y = flagged("SAY SET(5)");
            for (int v : new int[] {2, 8, 99}) {
                Kinds.wish(y, "end v0=" + v);
                is(y.least(2), NONE);
            }
            Kinds.wish(y, "end g=1");
            is(y.least(40), NONE);
            BlockStage none = new BlockStage();
            none.keep();
            Kinds.wish(none, "end g=1");
            is(none.least(1), NONE);
            Kinds.wish(none, "end g=0");
            is(none.least(1), 0);
            // RIGHT is on all KEPT STAGES: a change that helps on one of them is none.
            BlockStage two = flagged("SET(HERE)");
            two.things(0, 0, 1);
            two.keep();
            Kinds.wish(two, "end v0=1");
            is(two.least(1), NONE);
            // It is RIGHT on all KEPT STAGES but one, whichever that is.
            for (int kept = 1; kept <= 4; kept++) {
                for (int bad = -1; bad < kept; bad++) {
                    BlockStage z = new BlockStage();
                    for (int k = 0; k < kept; k++) {
                        z.stage(4, 4);
                        z.things(0, 0, k == bad ? 1 : 3);
                        z.actor(0, 0, 0);
                        z.keep();
                    }
                    Words.flagged(z, "SET(HERE)");
                    Kinds.wish(z, "end v0=3");
                    is(z.least(1), bad < 0 ? 0 : NONE);
                    Kinds.wish(z, "end v0<2");
                    // By OUT all are 0.
                    is(z.least(1), bad == 0 && kept == 1 ? 0 : 1);
                }
            }
        });
        promise(29, "(Nothing is changed.)", x -> {
            BlockStage y = flagged("GO TURN1 SET(5) SAY(1)");
            String text = Kinds.text(y, 0);
            y.flag();
            y.tick(3);
            for (String wish : new String[] {"end v0=4", "end x0=0 and end v0=6", "end g=1"}) {
                Kinds.wish(y, wish);
                y.least(4);
            }
            is(y.count(4), 3);
            is(y.who(0, 3), 5);
            isText(Kinds.text(y, 0), text);
            is(y.of(1, 1), 1);
            is(y.of(3, 1), 5);
            is(y.of(0, 4), 0);
            is(y.tick(1), 4);
            is(y.count(5), 1);
            is(y.fails(0), STATE);
            y.take(0);
            y.least(4);
            is(y.of(0, 4), -1);
            is(y.hole(0, 0), 1);
        });
    }

    private void leastRefused() {
        promise(29, "BAD (ahead of all): t", x -> {
            for (int bad : new int[] {0, -1, 41, MIN, MAX}) is(x.least(bad), BAD);
            for (int i = 0; i < 9; i++) x.block(0, 0);
            x.keep();
            Kinds.wish(x, "end g=0");
            for (int bad : new int[] {0, -1, 41, MIN, MAX}) is(x.least(bad), BAD);
            BlockStage y = flagged("SAY");
            Kinds.wish(y, "end g=0");
            is(y.least(1), 0);
            is(y.least(40), 0);
            is(y.least(41), BAD);
        });
        promise(29, "STATE (ahead of NONE): no WISH", x -> {
            x.keep();
            is(x.least(1), STATE);
            Kinds.wish(x, "end g=");
            is(x.least(40), STATE);
            Kinds.wish(x, "end g=0");
            is(x.least(1), 0);
        });
        promise(29, "no KEPT STAGES", x -> {
            Kinds.wish(x, "end g=1");
            is(x.least(1), STATE);
            is(x.least(40), STATE);
            x.keep();
            is(x.least(1), NONE);
        });
        promise(29, "more than 8 BLOCKS", x -> {
            x.keep();
            Kinds.wish(x, "end g=1");
            for (int i = 0; i < 8; i++) {
                is(x.least(1), NONE);
                x.block(0, 0);
            }
            is(x.least(1), NONE);
            Kinds.wish(x, "end g=0");
            is(x.least(1), 0);
            x.block(0, 0);
            is(x.least(1), STATE);
            Kinds.wish(x, "end g=1");
            is(x.least(1), STATE);
            for (int i = 9; i < 30; i++) x.block(0, 0);
            is(x.least(1), STATE);
            // It is BLOCKS that count: eight of them in six SCRIPTS with three ACTORS are not too many.
            BlockStage y = new BlockStage();
            for (int a = 0; a < 3; a++) y.actor(a, 0, 1);
            y.keep();
            for (int s = 0; s < 6; s++) Words.script(y, s % 3, FLAG, 0, 0, s < 4 ? "WAIT" : "WAIT GO");
            Kinds.wish(y, "end x1=1 and end x2=2 and never b0=1");
            is(y.count(0), 8);
            hints(y, 2, 5, 0, 7, 0);
        });
    }

    private void hint() {
        promise(30, "Of the i-th of the CHANGES of the latest least() that was told", x -> {
            BlockStage y = flagged("SAY SET(5)");
            Kinds.wish(y, "end v0=7");
            hints(y, 2, 2, 2, 2, 2);
            is(y.least(0), BAD);
            is(y.least(41), BAD);
            is(y.mark(2), 0);
            Kinds.wish(y, "end v0=4");
            y.number(2, 9);
            y.flag();
            is(y.hint(1, 1), 2);
            y.take(0);
            y.use(0);
            y.stage(1, 1);
            y.keep();
            y.write(0);
            y.act(0, 0, 1);
            is(y.hint(0, 0), 2);
            is(y.hint(1, 1), 2);
            for (int i = 0; i < 7; i++) y.block(0, 0);
            is(y.least(2), STATE);
            is(y.hint(0, 0), 2);
            is(y.hint(1, 0), 2);
            BlockStage z = flagged("SAY SET(5)");
            Kinds.wish(z, "end v0=7");
            z.least(2);
            Kinds.wish(z, "end v0=4");
            hints(z, 2, 2, 1);
            Kinds.wish(z, "end v0=5");
            hints(z, 2);
        });
        promise(30, "(none, if it answered NONE)", x -> {
            BlockStage y = flagged("SAY SET(5)");
            Kinds.wish(y, "end v0=7");
            hints(y, 2, 2, 2, 2, 2);
            Kinds.wish(y, "end g=9");
            is(y.least(2), NONE);
            for (int i = 0; i < 3; i++) {
                is(y.hint(i, 0), -5);
                is(y.hint(i, 1), -5);
            }
        });
        promise(30, ": 0 the BLOCK, 1 which", x -> {
            String[] words = {"GO WAIT", "TURN2 SAY", "TURN1 SAY", "GO TAKE"};
            String[] wishes = {"end x0=0", "end h0=2 and end s=1", "end h0=3 and end s=1", "end v0=1 and end x0=1"};
            for (int which = 0; which < 4; which++) {
                BlockStage y = new BlockStage();
                y.things(0, 0, 1);
                y.actor(0, 0, 1);
                y.keep();
                y.block(13, 0);
                Words.flagged(y, words[which]);
                Kinds.wish(y, wishes[which]);
                hints(y, 2, 1, which);
            }
        });
        promise(30, "-5: none such", x -> {
            is(x.hint(0, 0), -5);
            BlockStage y = flagged("SAY SET(5)");
            Kinds.wish(y, "end v0=6");
            is(y.least(2), 1);
            for (int bad : new int[] {-1, 1, 2, MIN, MAX}) {
                is(y.hint(bad, 0), -5);
                is(y.hint(bad, 1), -5);
            }
            for (int bad : new int[] {-1, 2, MIN, MAX}) is(y.hint(0, bad), -5);
            Kinds.wish(y, "end v0=7");
            is(y.least(2), 2);
            for (int bad : new int[] {-1, 2, MIN, MAX}) {
                is(y.hint(bad, 0), -5);
                is(y.hint(1, bad), -5);
            }
            is(y.hint(1, 1), 2);
        });
    }
}
