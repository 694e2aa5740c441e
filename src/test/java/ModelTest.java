import java.lang.reflect.Method;
import java.lang.reflect.Modifier;
import java.util.ArrayList;
import java.util.HashMap;
import java.util.List;
import java.util.Map;
import java.util.Random;

/** Runs of calls by chance, the same ones in each run of the test: the program answers as the model does. */
public final class ModelTest {
    private static final int MOST_CALLS = 512;
    private static final Map<String, Method> PROGRAM = methodsOf(BlockStage.class);
    private static final Map<String, Method> MODEL = methodsOf(Model.class);
    private static final int[] EXTREMES = {
        Integer.MIN_VALUE, Integer.MAX_VALUE, -2, -1, 0, 1, 2, 3, 4, 5, 8, 9, 10, 30, 40, 41, 50, 71, 100, 1 << 30};

    private final Random random;
    private final BlockStage program = new BlockStage();
    private final Model model = new Model();
    private final List<String> told = new ArrayList<>();
    private int calls = 0;
    private boolean same = true;

    private ModelTest(int seed) {
        random = new Random(seed);
    }

    public static void main(String[] args) throws Exception {
        int first = args.length > 0 ? Integer.parseInt(args[0]) : 0;
        int runs = args.length > 1 ? Integer.parseInt(args[1]) : 1200;
        int wrong = 0;
        for (int seed = first; seed < first + runs && wrong < 5; seed++) {
            ModelTest test = new ModelTest(seed);
            test.run(seed);
            if (!test.same) {
                wrong++;
                System.out.println("seed " + seed + ":");
                for (String line : test.told) System.out.println("  " + line);
            }
        }
        System.out.println(wrong == 0 ? runs + " runs of calls are as the model's" : "not as the model");
        if (wrong != 0) System.exit(1);
    }

    private static Map<String, Method> methodsOf(Class<?> of) {
        Map<String, Method> methods = new HashMap<>();
        for (Method m : of.getDeclaredMethods()) {
            if (Modifier.isPublic(m.getModifiers()) && !Modifier.isStatic(m.getModifiers())) methods.put(m.getName(), m);
        }
        return methods;
    }

    private int call(String name, int... args) throws Exception {
        if (!same || calls >= MOST_CALLS) return -1;
        calls++;
        Object[] boxed = new Object[args.length];
        StringBuilder line = new StringBuilder(name).append('(');
        for (int i = 0; i < args.length; i++) {
            boxed[i] = args[i];
            line.append(i > 0 ? ", " : "").append(args[i]);
        }
        int got = (Integer) PROGRAM.get(name).invoke(program, boxed);
        int want = (Integer) MODEL.get(name).invoke(model, boxed);
        told.add(line.append(") answered ").append(got).append(", due is ").append(want).toString());
        same = got == want;
        return want;
    }

    private int under(int n) {
        return random.nextInt(n);
    }

    private int between(int low, int high) {
        return low + random.nextInt(high - low + 1);
    }

    private boolean chance(int percent) {
        return random.nextInt(100) < percent;
    }

    private void run(int seed) throws Exception {
        int most = seed % 2 == 0 ? between(3, 8) : between(9, 30);
        setUpStage();
        if (seed % 4 == 0) {
            playLeast(most);
            return;
        }
        while (model.count(0) < most && calls < 200 && same) growScript(most);
        while (same && calls < MOST_CALLS) {
            int what = under(100);
            if (what < 4) setUpStage();
            else if (what < 10) tellStage();
            else if (what < 18) tellProgram(most);
            else if (what < 48) playRun();
            else if (what < 70) playWishes();
            else if (what < 74) playSheets();
            else if (what < 82) playTexts();
            else if (what < 90) lookAround();
            else anyCall();
        }
    }

    /** One or two kept stages, few blocks, and wishes that are met by changes. */
    private void playLeast(int most) throws Exception {
        call("keep");
        if (chance(30)) {
            call("things", 0, 0, under(10));
            call("keep");
        }
        while (model.count(0) < most && calls < 200 && same) growScript(most);
        while (same && calls < MOST_CALLS) {
            int t = between(1, 12);
            feedText(model.wishOfChanges(random, t));
            call("wish");
            call("mark", t);
            call("least", t);
            for (int i = 0; i < 4; i++) call("hint", i / 2, i % 2);
            if (chance(25)) {
                call("take", under(most));
                for (int i = 0; i < 3; i++) place(under(model.count(0)));
            }
            int block = under(most);
            if (chance(25)) call("number", block, numberOf(model.of(block, 0)));
        }
    }

    /** A stage on which something can go on, and that is kept. */
    private void setUpStage() throws Exception {
        int w = between(1, 5);
        int h = between(1, 4);
        call("stage", w, h);
        int actors = between(1, 3);
        for (int i = 0; i < actors; i++) call("actor", under(w), under(h), under(4));
        int cells = under(5);
        for (int i = 0; i < cells; i++) {
            if (chance(25)) call("wall", under(w), under(h), 1);
            else call("things", under(w), under(h), between(1, 9));
        }
        if (chance(70)) call("keep");
    }

    /** Things that are told by chance. */
    private void tellStage() throws Exception {
        if (chance(10)) call("stage", between(0, 9), between(0, 9));
        int cells = under(4);
        for (int i = 0; i < cells; i++) {
            if (chance(40)) call("wall", under(6), under(5), chance(80) ? 1 : under(3));
            else call("things", under(5), under(5), chance(90) ? under(10) : 10);
        }
        if (chance(30)) call("actor", under(5), under(4), chance(95) ? under(4) : 4);
        if (chance(50)) call("keep");
        if (chance(30)) call("use", under(4));
    }

    /** One more script with a row of orders, all holes filled by chance. */
    private void growScript(int most) throws Exception {
        int top = growOrders(most, 3);
        if (top < 0) return;
        int cap = chance(60) ? 0 : under(4);
        int c = cap == 1 ? under(4) : cap == 2 ? between(1, 9) : 0;
        int script = call("cue", chance(70) ? 0 : under(3), cap, c, under(2));
        if (script >= 0) call("top", script, top);
        else place(top);
    }

    private int growOrders(int most, int depth) throws Exception {
        int first = -1;
        int last = -1;
        int length = between(1, 4);
        for (int i = 0; i < length && model.count(0) < most; i++) {
            int[] orders = {0, 0, 0, 1, 2, 3, 4, 4, 5, 6, 7, 8, 8, 9, 9, 10, 10, 11, 12, 12};
            int kind = orders[under(orders.length)];
            int block = call("block", kind, numberOf(kind));
            if (block < 0) return first;
            if (last < 0) first = block;
            else call("join", last, 0, block);
            last = block;
            fillHoles(block, most, depth);
        }
        return first;
    }

    private void fillHoles(int block, int most, int depth) throws Exception {
        if (depth == 0) return;
        for (int hole = 1; hole < 5; hole++) {
            if (model.hole(block, hole) != -1 || chance(hole < 3 ? 25 : 7) || model.count(0) >= most) continue;
            int in = hole < 3 ? growOrders(most, depth - 1) : growRound(block, hole, most, depth - 1);
            if (in >= 0) call("join", block, hole, in);
        }
    }

    private int growRound(int host, int hole, int most, int depth) throws Exception {
        int of = model.of(host, 0);
        boolean sharp = hole == 3 && (of == 11 || of == 12 || of == 21);
        int[] rounds = {13, 13, 13, 13, 13, 13, 13, 13, 14, 14, 15, 15, 16, 17, 18, 19, 20, 21, 22};
        int[] sharps = {19, 20, 20, 21, 22};
        int kind = sharp ? sharps[under(sharps.length)] : rounds[under(rounds.length)];
        int block = call("block", kind, numberOf(kind));
        if (block >= 0) fillHoles(block, most, depth);
        return block;
    }

    private int anyKind() {
        int[] often = {0, 0, 1, 2, 3, 4, 4, 5, 6, 8, 9, 10, 10, 11, 12, 12};
        int[] rounds = {13, 13, 13, 14, 15, 16, 17, 18, 19, 20, 21, 22};
        if (chance(3)) return between(-1, 23);
        return chance(55) ? often[under(often.length)] : rounds[under(rounds.length)];
    }

    private int numberOf(int kind) {
        if (chance(1)) return between(-101, 101);
        if (kind == 1 || kind == 6) return under(4);
        return kind == 13 ? chance(85) ? between(-1, 5) : between(-99, 99) : 0;
    }

    /** More blocks, each put, if it goes, where it fits; scripts with tops. */
    private void tellProgram(int most) throws Exception {
        int more = between(1, 12);
        for (int i = 0; i < more && model.count(0) < most; i++) {
            int kind = anyKind();
            int block = call("block", kind, numberOf(kind));
            if (block >= 0) place(block);
        }
        for (int i = 0; i < 6; i++) {
            if (model.count(0) > 0 && chance(40)) place(under(model.count(0)));
        }
        if (chance(20)) call("take", under(30));
        if (chance(20)) call("number", under(Math.max(1, model.count(0))), chance(50) ? under(4) : between(-100, 100));
    }

    private void place(int block) throws Exception {
        if (model.of(block, 0) <= 12 && (model.count(1) < 2 || chance(25))) {
            int cap = under(4);
            int c = cap == 1 ? under(4) : cap == 2 ? between(1, 9) : 0;
            int script = chance(70) ? call("cue", under(3), chance(40) ? 0 : cap, c, under(2)) : under(6);
            if (script < 0) script = call("cue", under(3), 0, 0, under(2));
            if (model.scriptOf(script, 4) == -1) {
                call("top", script, block);
                return;
            }
        }
        for (int tries = 0; tries < 40; tries++) {
            int host = under(model.count(0));
            int hole = under(5);
            boolean round = model.of(block, 0) >= 13;
            boolean right = model.hole(host, hole) == -1 && round == hole > 2 && host != block;
            if (right || chance(2)) {
                call("join", host, hole, block);
                return;
            }
        }
    }

    private void playRun() throws Exception {
        if (model.count(4) < 0 || chance(12)) call("flag");
        int steps = between(1, 8);
        for (int i = 0; i < steps; i++) {
            call("tick", chance(80) ? between(1, 4) : chance(80) ? between(5, 60) : between(90, 101));
            lookAtRun();
            if (chance(20)) {
                call("back", chance(90) ? under(Math.max(1, model.count(4) + 1)) : under(310));
                lookAtRun();
            }
        }
    }

    private void lookAtRun() throws Exception {
        int looks = between(1, 4);
        for (int i = 0; i < looks; i++) {
            int what = under(7);
            if (what == 0) call("who", under(3), under(6));
            else if (what == 1) call("look", under(5), under(4));
            else if (what == 2) call("scriptOf", under(6), between(5, 7));
            else if (what == 3) call("item", under(3), under(21));
            else if (what == 4) call("said", chance(70) ? under(6) : under(52), under(3));
            else if (what == 5) call("count", between(4, 8));
            else call("scriptOf", under(Math.max(1, model.count(1))), between(5, 7));
        }
    }

    private String wishText() {
        StringBuilder text = new StringBuilder();
        int parts = chance(60) ? 1 : between(1, 5);
        for (int i = 0; i < parts; i++) {
            if (i > 0) text.append(" and ");
            text.append(new String[] {"end", "end", "once", "once", "always", "never"}[under(6)]).append(' ');
            char field = "xxyvvhbgs".charAt(under(9));
            text.append(field);
            if (field != 'g' && field != 's') text.append(chance(85) ? 0 : under(3));
            text.append("<==>".charAt(under(4)));
            if (chance(15)) text.append('-');
            text.append(chance(90) ? under(7) : under(1300));
        }
        if (chance(12)) {
            int at = under(text.length());
            if (chance(40)) text.setCharAt(at, (char) (chance(50) ? ' ' : under(256)));
            else if (chance(50)) text.setLength(at);
            else text.insert(at, " -0xe".charAt(under(5)));
        }
        return text.toString();
    }

    private void feedText(String text) throws Exception {
        for (int i = 0; i < text.length(); ) {
            int n = Math.min(4, text.length() - i);
            int bytes = chance(20) ? random.nextInt() : 0;
            for (int k = 0; k < n; k++) bytes = bytes << 8 | text.charAt(i + k);
            call("feed", bytes, n);
            i += n;
        }
    }

    private void playWishes() throws Exception {
        if (model.count(3) == 0) call("keep");
        if (chance(3)) call("feed", random.nextInt(), between(-1, 5));
        feedText(wishText());
        if (chance(20)) call("count", 6);
        call("wish");
        int t = chance(95) ? between(1, 12) : between(0, 41);
        call("mark", t);
        call("fails", 0);
        call("fails", 1);
        if (model.count(0) <= 8 || chance(10)) {
            call("least", t);
            for (int i = 0; i < 4; i++) call("hint", i / 2, i % 2);
        }
    }

    private void playSheets() throws Exception {
        int sheet = under(3);
        int sort = under(3);
        call("sheet", sheet, sort, chance(90) ? between(0, 70) : between(-2, 80));
        for (int i = 0; i < 8; i++) call("cell", chance(80) ? sheet : under(4), under(24), chance(80) ? between(-1, 9) : between(-70000, 70000));
        call("lay", sheet, chance(85) ? sort : under(4), chance(80) ? under(4) : between(-2, 70));
        if (chance(60)) call("sheet", (sheet + 1) % 3, chance(80) ? sort : between(-2, 3), between(0, 30));
        call("copy", sheet, under(8), chance(50) ? sheet : under(3), under(8), between(-1, 20));
        call("lay", under(3), under(3), under(4));
        call("look", under(5), under(4));
    }

    private void playTexts() throws Exception {
        if (chance(50)) {
            int length = call("write", under(6));
            for (int i = 0; i < Math.min(length, 12); i++) call("text", chance(50) ? i : under(length + 1));
        } else {
            call("act", chance(95) ? under(Math.max(1, model.count(0))) : 30, under(4), chance(70) ? between(-9, 9) : random.nextInt());
            call("count", 9);
            for (int i = 0; i < 5; i++) call("trace", under(13));
        }
        call("taken", under(30), under(5));
    }

    private void lookAround() throws Exception {
        for (int i = 0; i < 4; i++) {
            int what = under(5);
            if (what == 0) call("hole", under(30), under(6));
            else if (what == 1) call("of", under(30), between(-1, 5));
            else if (what == 2) call("scriptOf", under(6), between(-1, 8));
            else if (what == 3) call("count", between(-1, 10));
            else call("who", under(3), between(-1, 6));
        }
    }

    private void anyCall() throws Exception {
        List<String> names = new ArrayList<>(new java.util.TreeSet<>(MODEL.keySet()));
        String name = names.get(under(names.size()));
        int[] args = new int[MODEL.get(name).getParameterCount()];
        for (int i = 0; i < args.length; i++) {
            args[i] = chance(60) ? under(6) : chance(80) ? EXTREMES[under(EXTREMES.length)] : random.nextInt();
        }
        call(name, args);
    }
}
