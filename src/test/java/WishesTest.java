/** Promises 25 to 30: the tape, wishes, marks, and the least changes. */
public final class WishesTest {
    private static final int NONE = -1, BAD = -2, STATE = -3, FULL = -4;
    private static final int MIN = Integer.MIN_VALUE, MAX = Integer.MAX_VALUE;
    private static final Check check = new Check();

    public static void main(String[] args) {
        feed();
        goodWishes();
        faults();
        wishStays();
        markRefused();
        endAndOnce();
        alwaysAndNever();
        fieldsAndSigns();
        testsOfNoActor();
        severalParts();
        severalStages();
        fails();
        markLeavesTheRun();
        leastRefused();
        leastOne();
        leastOut();
        leastAbout();
        leastTwo();
        leastByOrder();
        leastAtTheEdges();
        leastNone();
        hintsStay();
        check.end();
    }

    private static void due(String call, long got, long want) {
        check.due(call, got, want);
    }

    private static void feed() {
        check.about("25 feed");
        BlockStage x = new BlockStage();
        due("feed(7, 0)", x.feed(7, 0), 0);
        due("feed(7, -1)", x.feed(7, -1), BAD);
        due("feed(7, 5)", x.feed(7, 5), BAD);
        due("feed(7, MAX)", x.feed(7, MAX), BAD);
        due("feed(7, MIN)", x.feed(7, MIN), BAD);
        for (int i = 1; i <= 19; i++) due("feed(-1, 4)", x.feed(-1, 4), 4 * i);
        due("feed(0, 3)", x.feed(0, 3), 79);
        due("feed(0, 2)", x.feed(0, 2), FULL);
        due("feed(0, 5)", x.feed(0, 5), BAD);
        due("feed(0, 1)", x.feed(0, 1), 80);
        due("feed(0, 0)", x.feed(0, 0), 80);
        due("feed(0, 1)", x.feed(0, 1), FULL);
        due("count(6)", x.count(6), 80);
        due("wish()", x.wish(), -10);
        due("count(6)", x.count(6), 0);
        // "end g=-1", its bytes by four, two, one and one, each below bytes that are not fed.
        due("feed", x.feed(('e' << 24) | ('n' << 16) | ('d' << 8) | ' ', 4), 4);
        due("feed", x.feed(0x77660000 | ('g' << 8) | '=', 2), 6);
        due("feed", x.feed(0x55667700 | '-', 1), 7);
        due("feed", x.feed('1', 1), 8);
        due("wish()", x.wish(), 1);
        due("feed", x.feed(0xff000000 | ('e' << 16) | ('n' << 8) | 'd', 3), 3);
        due("wish()", x.wish(), -13);
    }

    private static void goodWishes() {
        check.about("26 wishes that are right");
        String[] whens = {"end", "always", "never", "once"};
        String[] fields = {"x0", "y1", "v2", "h0", "b1", "g", "s"};
        String[] numbers = {"0", "9", "-1", "-0", "007", "999", "-999", "42"};
        BlockStage x = new BlockStage();
        int asked = 0;
        for (String when : whens) {
            for (String field : fields) {
                String op = "<=>".substring(asked % 3, asked % 3 + 1);
                String number = numbers[asked % numbers.length];
                String part = when + " " + field + op + number;
                if (++asked % 14 == 0) x = new BlockStage();
                due("wish of " + part, Kinds.wish(x, part), 1);
                due("count(7)", x.count(7), 1);
            }
        }
        x = new BlockStage();
        String longest = "always x0=-999";
        String text = longest;
        for (int parts = 1; parts <= 4; parts++) {
            due("wish of " + parts + " parts", Kinds.wish(x, text), parts);
            due("count(7)", x.count(7), parts);
            due("count(6)", x.count(6), 0);
            text = text + " and " + longest;
        }
    }

    private static void fault(String text, int place) {
        BlockStage x = new BlockStage();
        due("wish of '" + text + "'", Kinds.wish(x, text), -10 - place);
        due("count(6)", x.count(6), 0);
        due("count(7)", x.count(7), 0);
    }

    private static void faults() {
        check.about("26 faults");
        fault("", 0);
        fault(" ", 0);
        fault("End x0=1", 0);
        fault("e", 1);
        fault("enD x0=1", 2);
        fault("end", 3);
        fault("endx0=1", 3);
        fault("end ", 4);
        fault("end  x0=1", 4);
        fault("end q0=1", 4);
        fault("end x", 5);
        fault("end x3=1", 5);
        fault("end x=1", 5);
        fault("end x0", 6);
        fault("end x0 =1", 6);
        fault("end x0!1", 6);
        fault("end x0=", 7);
        fault("end x0==1", 7);
        fault("end x0=+1", 7);
        fault("end x0=-", 8);
        fault("end x0=--1", 8);
        fault("end x0=- 1", 8);
        fault("end x0=1234", 10);
        fault("end x0=-1234", 11);
        fault("end x0=1 ", 9);
        fault("end x0=1a", 8);
        fault("end x0=1  and once g=1", 9);
        fault("end x0=1 an", 11);
        fault("end x0=1 and", 12);
        fault("end x0=1 and ", 13);
        fault("end x0=1 and  once g=1", 13);
        fault("end x0=1 andonce g=1", 12);
        fault("end x0=1 or once g=1", 9);
        fault("end g0=1", 5);
        fault("end s1=1", 5);
        fault("once", 4);
        fault("onse g=1", 2);
        fault("never g", 7);
        fault("nevermore", 5);
        fault("alway g=1", 5);
        fault("end g=1 and end g=1 and end g=1 and end g=1 and end g=1", 43);
        fault("end g=1 and end g=1 and end g=1 and end g=12345", 45);
        fault("\u00e9nd x0=1", 0);
        fault("end x0=1\u0000", 8);
    }

    private static void wishStays() {
        check.about("26 the wish stays behind a fault");
        BlockStage x = new BlockStage();
        x.keep();
        due("wish", Kinds.wish(x, "end g=0 and end s=0"), 2);
        due("wish with a fault", Kinds.wish(x, "end g=1 and never y2<3 and always!"), -10 - 33);
        due("count(7)", x.count(7), 2);
        due("mark(3)", x.mark(3), 1);
        due("wish", Kinds.wish(x, "end g>0"), 1);
        due("mark(3)", x.mark(3), 0);
        due("wish with a fault", x.wish(), -10);
        due("mark(3)", x.mark(3), 0);
        due("wish", Kinds.wish(x, "end g<1"), 1);
        due("mark(3)", x.mark(3), 1);
    }

    private static void markRefused() {
        check.about("27 mark refused");
        BlockStage x = new BlockStage();
        due("mark(0)", x.mark(0), BAD);
        due("mark(41)", x.mark(41), BAD);
        due("mark(40) without wish", x.mark(40), STATE);
        Kinds.wish(x, "end x0=0");
        due("mark(40) without stages", x.mark(40), STATE);
        due("mark(MIN)", x.mark(MIN), BAD);
        x.keep();
        due("mark(40)", x.mark(40), 0);
        due("mark(1)", x.mark(1), 0);
        x = new BlockStage();
        x.keep();
        due("mark(1) without wish", x.mark(1), STATE);
    }

    /** An actor at 0, 0 that goes east by one each tick, in a row of 8, one stage kept. */
    private static BlockStage walker() {
        BlockStage x = new BlockStage();
        x.stage(8, 1);
        x.actor(0, 0, 1);
        x.keep();
        Kinds.row(x, 0, Kinds.EVERY, 1, 0, Kinds.GO);
        return x;
    }

    private static void marked(BlockStage x, String wish, int t, int lost) {
        due("wish of " + wish, Kinds.wish(x, wish) > 0 ? 1 : 0, 1);
        due("mark(" + t + ") of " + wish, x.mark(t), lost < 0 ? 1 : 0);
        due("fails(0) of " + wish, x.fails(0), lost < 0 ? -1 : 0);
        due("fails(1) of " + wish, x.fails(1), lost);
    }

    private static void endAndOnce() {
        check.about("27 end, once");
        marked(walker(), "end x0=3", 3, -1);
        marked(walker(), "end x0=3", 2, 2);
        marked(walker(), "end x0=3", 4, 4);
        marked(walker(), "end x0=7", 40, -1);
        marked(walker(), "once x0=3", 9, -1);
        marked(walker(), "once x0=3", 3, -1);
        marked(walker(), "once x0=3", 2, 2);
        marked(walker(), "once x0=0", 5, -1);
        marked(walker(), "once x0=9", 40, 40);
    }

    private static void alwaysAndNever() {
        check.about("27 always, never");
        marked(walker(), "always x0<4", 3, -1);
        marked(walker(), "always x0<4", 4, 4);
        marked(walker(), "always x0<4", 9, 4);
        marked(walker(), "always x0>0", 9, 0);
        marked(walker(), "never x0=4", 3, -1);
        marked(walker(), "never x0=4", 4, 4);
        marked(walker(), "never x0=4", 40, 4);
        marked(walker(), "never x0=0", 1, 0);
        marked(walker(), "never x0>7", 40, -1);
    }

    private static void fieldsAndSigns() {
        check.about("27 fields");
        BlockStage x = new BlockStage();
        x.stage(4, 3);
        x.actor(3, 0, 1);
        x.actor(1, 2, 0);
        x.things(1, 2, 5);
        x.things(0, 0, 2);
        x.keep();
        Kinds.row(x, 1, Kinds.EVERY, 1, 0, Kinds.TAKE);
        Kinds.row(x, 0, Kinds.EVERY, 1, 0, Kinds.GO);
        Kinds.row(x, 1, Kinds.EVERY, 2, 0, Kinds.SAY);
        String[] fields = {"x0", "y0", "h0", "v0", "b0", "x1", "y1", "h1", "v1", "b1", "g", "s"};
        int[] values = {3, 0, 1, 0, 3, 1, 2, 0, 3, 0, 4, 1};
        for (int i = 0; i < fields.length; i++) {
            String part = "end " + fields[i];
            marked(x, part + "=" + values[i], 3, -1);
            marked(x, part + "<" + values[i], 3, 3);
            marked(x, part + ">" + values[i], 3, 3);
            marked(x, part + "<" + (values[i] + 1), 3, -1);
            marked(x, part + ">" + (values[i] - 1), 3, -1);
            if (i == 5) x = again(x);
        }
        x = new BlockStage();
        x.actor(0, 0, 0);
        x.keep();
        x.block(Kinds.SET, 0);
        Kinds.in(x, 0, Kinds.FIRST, Kinds.NUMBER, -7);
        x.cue(0, 0, 0, 0);
        x.top(0, 0);
        marked(x, "end v0=-7", 1, -1);
        marked(x, "end v0<-6", 1, -1);
        marked(x, "end v0=-007", 1, -1);
    }

    /** The same stage and scripts in a new object, so that no object is used for too many calls. */
    private static BlockStage again(BlockStage old) {
        BlockStage x = new BlockStage();
        x.stage(4, 3);
        x.actor(3, 0, 1);
        x.actor(1, 2, 0);
        x.things(1, 2, 5);
        x.things(0, 0, 2);
        x.keep();
        for (int s = 0; s < old.count(1); s++) {
            Kinds.row(x, old.scriptOf(s, 0), old.scriptOf(s, 1), old.scriptOf(s, 2), 0, old.of(s, 0));
        }
        return x;
    }

    private static void testsOfNoActor() {
        check.about("27 tests of no actor");
        marked(walker(), "never x1>-1", 4, -1);
        marked(walker(), "never x2=0", 4, -1);
        marked(walker(), "always b1=0", 4, 0);
        marked(walker(), "end v1<1", 4, 4);
        marked(walker(), "once h2>-1", 4, 4);
    }

    private static void severalParts() {
        check.about("27 several parts");
        marked(walker(), "end x0=5 and always x0<9 and never v0>0 and once x0=2", 5, -1);
        marked(walker(), "end x0=9 and always x0<3", 6, 3);
        marked(walker(), "always x0<3 and never x0=2 and end x0=9", 6, 2);
        marked(walker(), "never x0=4 and always x0<3 and end x0=9", 6, 3);
        marked(walker(), "once x0=9 and always x0<9", 6, 6);
        marked(walker(), "end x0=5 and end x0=5 and end x0=6", 5, 5);
    }

    private static void severalStages() {
        check.about("27 several stages");
        BlockStage x = walker();
        x.stage(3, 1);
        x.actor(1, 0, 1);
        x.keep();
        x.stage(8, 2);
        x.actor(0, 1, 1);
        x.keep();
        x.stage(1, 1);
        Kinds.wish(x, "once x0=2");
        due("mark(2)", x.mark(2), 1);
        Kinds.wish(x, "always x0<3");
        due("mark(2)", x.mark(2), 1);
        due("mark(3)", x.mark(3), 0);
        due("fails(0)", x.fails(0), 0);
        due("fails(1)", x.fails(1), 3);
        Kinds.wish(x, "never b0=1");
        due("mark(4)", x.mark(4), 0);
        due("fails(0)", x.fails(0), 1);
        due("fails(1)", x.fails(1), 2);
        Kinds.wish(x, "end y0=0");
        due("mark(4)", x.mark(4), 0);
        due("fails(0)", x.fails(0), 2);
        due("fails(1)", x.fails(1), 4);
    }

    private static void fails() {
        check.about("28 fails");
        BlockStage x = walker();
        due("fails(0) ahead of any mark", x.fails(0), STATE);
        due("fails(7) ahead of any mark", x.fails(7), STATE);
        due("mark(3) without a wish", x.mark(3), STATE);
        due("fails(0) behind a refusal", x.fails(0), STATE);
        Kinds.wish(x, "end x0=3");
        due("least(2)", x.least(2), NONE);
        due("fails(0) behind least()", x.fails(0), STATE);
        due("mark(2)", x.mark(2), 0);
        due("fails(2)", x.fails(2), BAD);
        due("fails(-1)", x.fails(-1), BAD);
        due("mark(0)", x.mark(0), BAD);
        x.least(3);
        x.stage(2, 2);
        x.take(0);
        due("fails(0)", x.fails(0), 0);
        due("fails(1)", x.fails(1), 2);
        x.top(0, 0);
        due("mark(3)", x.mark(3), 1);
        due("fails(0)", x.fails(0), -1);
        due("fails(1)", x.fails(1), -1);
    }

    private static void markLeavesTheRun() {
        check.about("27 the run stays");
        BlockStage x = walker();
        Kinds.wish(x, "end x0=3");
        x.flag();
        x.tick(4);
        due("mark(2)", x.mark(2), 0);
        due("least(2)", x.least(2), NONE);
        due("count(4)", x.count(4), 4);
        due("who(0, 0)", x.who(0, 0), 4);
        due("tick(1)", x.tick(1), 5);
        due("who(0, 0)", x.who(0, 0), 5);
        due("back(4)", x.back(4), 1);
        due("who(0, 0)", x.who(0, 0), 1);
    }

    private static void leastRefused() {
        check.about("29 least refused");
        BlockStage x = walker();
        due("least(0)", x.least(0), BAD);
        due("least(41)", x.least(41), BAD);
        due("least(5) without a wish", x.least(5), STATE);
        Kinds.wish(x, "end x0=5");
        due("least(5)", x.least(5), 0);
        for (int i = 1; i < 8; i++) x.block(Kinds.WAIT, 0);
        due("least(5) of 8", x.least(5), 0);
        due("least(4) of 8", x.least(4), NONE);
        x.block(Kinds.WAIT, 0);
        due("least(5) of 9", x.least(5), STATE);
        due("least(41) of 9", x.least(41), BAD);
        x = new BlockStage();
        Kinds.wish(x, "end g=0");
        due("least(5) without stages", x.least(5), STATE);
    }

    private static void hints(BlockStage x, int t, int... rows) {
        due("least(" + t + ")", x.least(t), rows.length / 2);
        for (int i = 0; i < rows.length; i++) due("hint(" + i / 2 + ", " + i % 2 + ")", x.hint(i / 2, i % 2), rows[i]);
        due("hint beyond", x.hint(rows.length / 2, 0), -5);
        due("hint(0, 2)", x.hint(0, 2), -5);
        due("hint(0, -1)", x.hint(0, -1), -5);
        due("hint(-1, 0)", x.hint(-1, 0), -5);
    }

    private static void leastOne() {
        check.about("29, 30 least by one number");
        BlockStage x = new BlockStage();
        x.actor(0, 0, 0);
        x.keep();
        int set = x.block(Kinds.SET, 0);
        int five = Kinds.in(x, set, Kinds.FIRST, Kinds.NUMBER, 5);
        x.cue(0, 0, 0, 0);
        x.top(0, set);
        Kinds.wish(x, "end v0=5");
        hints(x, 1);
        Kinds.wish(x, "end v0=4");
        hints(x, 1, five, 1);
        Kinds.wish(x, "end v0=6");
        hints(x, 1, five, 2);
        Kinds.wish(x, "end v0=0");
        hints(x, 1, set, 0);
        Kinds.wish(x, "end v0=7");
        hints(x, 1, five, 2, five, 2);
        Kinds.wish(x, "end v0=3");
        hints(x, 1, five, 1, five, 1);
        due("of(1, 1): nothing is changed", x.of(five, 1), 5);
        due("scriptOf(0, 4): nothing is changed", x.scriptOf(0, 4), set);
    }

    private static void leastOut() {
        check.about("29 OUT");
        BlockStage x = new BlockStage();
        x.stage(8, 1);
        x.actor(0, 0, 1);
        x.keep();
        int repeat = x.block(Kinds.REPEAT, 0);
        int go = Kinds.in(x, repeat, Kinds.NEXT, Kinds.GO, 0);
        Kinds.in(x, repeat, Kinds.BODY, Kinds.WAIT, 0);
        Kinds.in(x, go, Kinds.NEXT, Kinds.GO, 0);
        int last = Kinds.in(x, 3, Kinds.NEXT, Kinds.GO, 0);
        x.cue(0, 0, 0, 0);
        x.top(0, repeat);
        Kinds.wish(x, "end x0=3");
        hints(x, 3, repeat, 0);
        Kinds.wish(x, "end x0=2");
        hints(x, 9, go, 0);
        Kinds.wish(x, "end x0=1");
        hints(x, 9, go, 0, 3, 0);
        Kinds.wish(x, "never x0=1");
        due("least(9)", x.least(9), NONE);
        due("hole(0, 0) as it was", x.hole(repeat, 0), go);
        due("hole(3, 0) as it was", x.hole(3, 0), last);
        // A block without a NEXT goes out of a body: the body is empty then.
        x = new BlockStage();
        x.stage(8, 1);
        x.actor(0, 0, 1);
        x.keep();
        int shell = x.block(Kinds.IF, 0);
        int only = Kinds.in(x, shell, Kinds.OTHER, Kinds.GO, 0);
        x.cue(0, 0, 0, 0);
        x.top(0, shell);
        Kinds.wish(x, "end x0=0");
        hints(x, 9, shell, 0);
        x.cue(0, 0, 0, 0);
        x.top(1, x.block(Kinds.GO, 0));
        Kinds.wish(x, "end x0=1 and once x0=1");
        hints(x, 9, shell, 0);
        x.take(only);
        Kinds.wish(x, "end x0=0");
        hints(x, 9, 2, 0);
    }

    private static void leastAbout() {
        check.about("29 ABOUT");
        BlockStage x = new BlockStage();
        x.stage(4, 4);
        x.actor(0, 0, 1);
        x.keep();
        int turn = x.block(Kinds.TURN, 1);
        int go = Kinds.in(x, turn, Kinds.NEXT, Kinds.GO, 0);
        int say = Kinds.in(x, go, Kinds.NEXT, Kinds.SAY, 0);
        x.cue(0, 0, 0, 0);
        x.top(0, turn);
        Kinds.wish(x, "end x0=1 and end h0=2 and end s=1");
        hints(x, 5, turn, 3);
        Kinds.wish(x, "end y0=1 and always s=0");
        hints(x, 2);
        Kinds.wish(x, "end s=1 and end y0=1");
        hints(x, 3);
        Kinds.wish(x, "once s=1 and end y0=0 and end h0=2");
        hints(x, 2, go, 0);
        // First the last two about, then the first two: SAY comes ahead of all.
        Kinds.wish(x, "end s=1 and end h0=1");
        hints(x, 1, turn, 0, go, 0);
        x.number(turn, 2);
        due("least(1)", x.least(1), 2);
        due("of(2, 2): nothing is changed", x.of(say, 2), go);
        aboutInABody();
    }

    /** In the body of a loop: SAY, GO, TAKE; about, the body begins with GO, and TAKE stays behind SAY. */
    private static void aboutInABody() {
        BlockStage x = new BlockStage();
        x.stage(2, 1);
        x.actor(0, 0, 1);
        x.things(1, 0, 1);
        x.keep();
        int repeat = x.block(Kinds.REPEAT, 0);
        Kinds.in(x, repeat, Kinds.FIRST, Kinds.NUMBER, 1);
        int say = Kinds.in(x, repeat, Kinds.BODY, Kinds.SAY, 0);
        Kinds.in(x, say, Kinds.FIRST, Kinds.HERE, 0);
        int go = Kinds.in(x, say, Kinds.NEXT, Kinds.GO, 0);
        Kinds.in(x, go, Kinds.NEXT, Kinds.TAKE, 0);
        x.cue(0, 0, 0, 0);
        x.top(0, repeat);
        Kinds.wish(x, "end x0=1 and end s=0");
        hints(x, 2, say, 0);
        Kinds.wish(x, "end x0=1 and end s=1 and end v0=0");
        hints(x, 3);
        // In tick 2 it goes, in tick 3 it says, in tick 4 it takes: nothing but ABOUT does so.
        Kinds.wish(x, "always x0=0 and end s=0");
        hints(x, 1);
        Kinds.wish(x, "end v0=1 and end s=1 and end x0=1");
        hints(x, 4);
        x.take(go);
        x.join(repeat, Kinds.NEXT, go);
        Kinds.wish(x, "end x0=1 and end s=1 and once v0=0");
        hints(x, 4);
        Kinds.wish(x, "end x0=1 and end s=1");
        // REPEAT about with GO: GO in tick 1, REPEAT in 2, SAY in 3.
        hints(x, 3, repeat, 3);
    }

    private static void leastTwo() {
        check.about("29 two changes");
        BlockStage x = new BlockStage();
        x.stage(8, 8);
        x.actor(4, 4, 0);
        x.keep();
        int first = x.block(Kinds.TURN, 0);
        int second = Kinds.in(x, first, Kinds.NEXT, Kinds.GO, 0);
        int third = Kinds.in(x, second, Kinds.NEXT, Kinds.TURN, 0);
        Kinds.in(x, third, Kinds.NEXT, Kinds.GO, 0);
        x.cue(0, 0, 0, 0);
        x.top(0, first);
        Kinds.wish(x, "end x0=6");
        due("least(4) is turned once", x.least(4), 1);
        due("hint(0, 0)", x.hint(0, 0), first);
        due("hint(0, 1)", x.hint(0, 1), 2);
        Kinds.wish(x, "end x0=5 and end y0=5");
        hints(x, 4, first, 2, third, 2);
        Kinds.wish(x, "end y0=6");
        hints(x, 4, first, 1, first, 1);
        Kinds.wish(x, "end x0=5 and end y0=5 and once x0=5 and once y0=4");
        due("least(4)", x.least(4), 2);
    }

    /** Of several rows the first: by the block, then the change, of the first one, then so of the second. */
    private static void leastByOrder() {
        check.about("29 the first of several rows");
        BlockStage x = new BlockStage();
        x.stage(8, 1);
        x.actor(0, 0, 1);
        x.keep();
        Kinds.row(x, 0, 0, 0, 0, Kinds.GO, Kinds.GO, Kinds.GO, Kinds.GO);
        Kinds.wish(x, "end x0=3");
        hints(x, 9, 0, 0);
        Kinds.wish(x, "end x0=2");
        hints(x, 9, 0, 0, 1, 0);
        x = new BlockStage();
        x.actor(0, 0, 1);
        x.keep();
        int two = x.block(Kinds.NUMBER, 2);
        int one = x.block(Kinds.NUMBER, 1);
        int sum = x.block(Kinds.SUM, 0);
        int set = x.block(Kinds.SET, 0);
        x.join(sum, 3, two);
        x.join(sum, 4, one);
        x.join(set, 3, sum);
        x.cue(0, 0, 0, 0);
        x.top(0, set);
        Kinds.wish(x, "end v0=4");
        hints(x, 1, two, 2);
        Kinds.wish(x, "end v0=1");
        hints(x, 1, two, 1, two, 1);
        Kinds.wish(x, "end v0=5");
        hints(x, 1, two, 2, two, 2);
    }

    private static void leastAtTheEdges() {
        check.about("29 numbers at their edges");
        for (int n = -99; n <= 99; n += 198) {
            BlockStage x = new BlockStage();
            x.actor(0, 0, 1);
            x.keep();
            int set = x.block(Kinds.SET, 0);
            int number = Kinds.in(x, set, Kinds.FIRST, Kinds.NUMBER, n);
            x.cue(0, 0, 0, 0);
            x.top(0, set);
            Kinds.wish(x, "end v0=" + (n < 0 ? -100 : 100));
            due("least(1) beyond " + n, x.least(1), NONE);
            Kinds.wish(x, "end v0=" + (n < 0 ? -98 : 98));
            hints(x, 1, number, n < 0 ? 2 : 1);
        }
        for (int n = 0; n < 4; n++) {
            BlockStage x = new BlockStage();
            x.actor(0, 0, 0);
            x.keep();
            x.block(Kinds.TURN, n);
            x.cue(0, 0, 0, 0);
            x.top(0, 0);
            Kinds.wish(x, "end h0=" + (n + 3) % 4);
            due("least(1) one less than " + n, x.least(1), 1);
            due("hint(0, 1)", x.hint(0, 1), n == 1 ? 0 : 1);
            Kinds.wish(x, "end h0=" + (n + 1) % 4);
            due("least(1) one more than " + n, x.least(1), 1);
            due("hint(0, 1)", x.hint(0, 1), n == 3 ? 0 : 2);
        }
        BlockStage x = new BlockStage();
        x.actor(0, 0, 0);
        x.keep();
        x.block(Kinds.CALL, 1);
        Kinds.row(x, 0, Kinds.CALLED, 2, 0, Kinds.SAY);
        x.cue(0, 0, 0, 0);
        x.top(1, 0);
        Kinds.wish(x, "end s=1");
        due("least(4): n of CALL is not changed", x.least(4), NONE);
    }

    private static void leastNone() {
        check.about("29 none such row");
        BlockStage x = walker();
        Kinds.wish(x, "end x0=5");
        hints(x, 5);
        due("least(3)", x.least(3), NONE);
        due("hint(0, 0)", x.hint(0, 0), -5);
        x = new BlockStage();
        x.keep();
        Kinds.wish(x, "end g=1");
        due("least(3) without blocks", x.least(3), NONE);
        Kinds.wish(x, "end g=0");
        due("least(3) without blocks", x.least(3), 0);
    }

    private static void hintsStay() {
        check.about("30 hints stay");
        BlockStage x = new BlockStage();
        x.actor(0, 0, 0);
        x.keep();
        int set = x.block(Kinds.SET, 0);
        int one = Kinds.in(x, set, Kinds.FIRST, Kinds.NUMBER, 1);
        x.cue(0, 0, 0, 0);
        x.top(0, set);
        Kinds.wish(x, "end v0=2");
        due("least(1)", x.least(1), 1);
        due("least(0)", x.least(0), BAD);
        x.number(one, 2);
        for (int i = 0; i < 7; i++) x.block(0, 0);
        due("least(1) of 9", x.least(1), STATE);
        due("mark(1)", x.mark(1), 1);
        due("hint(0, 0)", x.hint(0, 0), one);
        due("hint(0, 1)", x.hint(0, 1), 2);
        due("hint(1, 0)", x.hint(1, 0), -5);
        due("hint(MAX, 1)", x.hint(MAX, 1), -5);
    }
}
