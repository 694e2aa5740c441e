import java.util.ArrayList;
import java.util.HashMap;
import java.util.HashSet;
import java.util.List;
import java.util.Map;
import java.util.Set;
import java.util.regex.Matcher;
import java.util.regex.Pattern;

/**
 * The document once more, in another form than the program's: objects that point to one another,
 * every tick of a run kept whole, wishes read by a pattern, refusals thrown. ModelTest asks both.
 */
public final class Model {
    private static final int NONE = -1, BAD = -2, STATE = -3, FULL = -4, NO = Integer.MIN_VALUE;
    private static final String[] HOLES = {
        "0", "0", "0", "0", "03", "03", "0", "0", "03", "034", "013", "013", "0123",
        "", "", "34", "", "3", "34", "", "34", "3", ""};

    private static final class Refused extends RuntimeException {
        private static final long serialVersionUID = 1L;
        final int code;

        Refused(int code) {
            super(null, null, false, false);
            this.code = code;
        }
    }

    private static final class Actor {
        int x, y, heading, value, bumped;
        int[] row;

        Actor copy() {
            Actor a = new Actor();
            a.x = x;
            a.y = y;
            a.heading = heading;
            a.value = value;
            a.bumped = bumped;
            a.row = row == null ? null : row.clone();
            return a;
        }
    }

    private static final class Stage {
        final int w, h;
        final int[][] cells;
        final List<Actor> actors = new ArrayList<>();

        Stage(int w, int h) {
            this.w = w;
            this.h = h;
            cells = new int[h][w];
        }

        Stage copy() {
            Stage s = new Stage(w, h);
            for (int y = 0; y < h; y++) s.cells[y] = cells[y].clone();
            for (Actor a : actors) s.actors.add(a.copy());
            return s;
        }

        boolean has(int x, int y) {
            return 0 <= x && x < w && 0 <= y && y < h;
        }

        int things() {
            int sum = 0;
            for (int[] row : cells) for (int c : row) sum += Math.max(c, 0);
            return sum;
        }
    }

    private static final class Block {
        int id, kind, n;
        final Block[] holes = new Block[5];
        Block in;
        int where = -1;
        Script topOf;

        boolean free() {
            return in == null && topOf == null;
        }
    }

    private static final class Script {
        int id, actor, cap, c, again;
        Block top;
    }

    private static final class Program {
        final List<Block> blocks = new ArrayList<>();
        final List<Script> scripts = new ArrayList<>();

        Program copy() {
            Program p = new Program();
            for (Block b : blocks) {
                Block c = new Block();
                c.id = b.id;
                c.kind = b.kind;
                c.n = b.n;
                c.where = b.where;
                p.blocks.add(c);
            }
            for (Script s : scripts) {
                Script t = new Script();
                t.id = s.id;
                t.actor = s.actor;
                t.cap = s.cap;
                t.c = s.c;
                t.again = s.again;
                if (s.top != null) {
                    t.top = p.blocks.get(s.top.id);
                    t.top.topOf = t;
                }
                p.scripts.add(t);
            }
            for (Block b : blocks) {
                Block c = p.blocks.get(b.id);
                for (int h = 0; h < 5; h++) c.holes[h] = b.holes[h] == null ? null : p.blocks.get(b.holes[h].id);
                c.in = b.in == null ? null : p.blocks.get(b.in.id);
            }
            return p;
        }

        /** What is in a hole of another, or a top, is so no more. */
        void pull(Block b) {
            if (b.in != null) b.in.holes[b.where] = null;
            if (b.topOf != null) b.topOf.top = null;
            b.in = null;
            b.where = -1;
            b.topOf = null;
        }

        void push(Block host, int hole, Script script, Block b) {
            if (host != null) {
                host.holes[hole] = b;
                b.in = host;
                b.where = hole;
            } else {
                script.top = b;
                b.topOf = script;
            }
        }

        boolean change(int id, int which) {
            Block b = blocks.get(id);
            if (which == 1 || which == 2) {
                int n = which == 1 ? b.n - 1 : b.n + 1;
                if (b.kind == 1) b.n = Math.floorMod(n, 4);
                else if (b.kind == 13 && n >= -99 && n <= 99) b.n = n;
                else return false;
                return true;
            }
            if (b.kind > 12 || b.free()) return false;
            Block next = b.holes[0];
            if (which == 3 && next == null) return false;
            Block host = b.in;
            int hole = b.where;
            Script script = b.topOf;
            pull(b);
            if (next == null) return true;
            pull(next);
            push(host, hole, script, next);
            if (which == 3) {
                Block third = next.holes[0];
                if (third != null) pull(third);
                push(next, 0, null, b);
                if (third != null) push(b, 0, null, third);
            }
            return true;
        }
    }

    /** Of a script in a run: what it does. */
    private static final class Doing {
        int state, refusal;
        Block at;
        boolean above;

        Doing copy() {
            Doing d = new Doing();
            d.state = state;
            d.refusal = refusal;
            d.at = at;
            d.above = above;
            return d;
        }
    }

    private static final class Run {
        Program program;
        Stage stage;
        int tick;
        final List<Doing> doings = new ArrayList<>();
        final Map<Block, Integer> turns = new HashMap<>();
        Set<Integer> sent = new HashSet<>();
        final List<int[]> said = new ArrayList<>();

        Run(Program program, Stage beginning) {
            this.program = program;
            stage = beginning.copy();
            for (int i = 0; i < program.scripts.size(); i++) doings.add(new Doing());
        }

        Run copy() {
            Run r = new Run(program, stage);
            r.tick = tick;
            r.doings.clear();
            for (Doing d : doings) r.doings.add(d.copy());
            r.turns.putAll(turns);
            r.sent.addAll(sent);
            r.said.addAll(said);
            return r;
        }

        boolean met(Actor a) {
            for (Actor b : stage.actors) if (b != a && b.x == a.x && b.y == a.y) return true;
            return false;
        }

        int[] ahead(Actor a) {
            int[] c = {a.x, a.y};
            if (a.heading == 0) c[1]--;
            if (a.heading == 1) c[0]++;
            if (a.heading == 2) c[1]++;
            if (a.heading == 3) c[0]--;
            return c;
        }

        boolean walled(Actor a) {
            int[] c = ahead(a);
            return !stage.has(c[0], c[1]) || stage.cells[c[1]][c[0]] < 0;
        }

        void oneTick() {
            tick++;
            Set<Integer> heard = sent;
            sent = new HashSet<>();
            for (Script s : program.scripts) {
                Doing d = doings.get(s.id);
                if (s.top == null || s.actor >= stage.actors.size() || d.state == 2) continue;
                boolean hit = s.cap == 0 ? tick == 1 : s.cap == 1 ? heard.contains(s.c)
                    : s.cap == 2 ? tick % s.c == 0 : met(stage.actors.get(s.actor));
                if (hit && (d.state == 0 || s.again == 1)) {
                    d.state = 1;
                    d.at = s.top;
                    d.above = true;
                }
            }
            for (Script s : program.scripts) {
                Doing d = doings.get(s.id);
                if (d.state != 1) continue;
                try {
                    step(stage.actors.get(s.actor), s.actor, d);
                } catch (Refused r) {
                    d.state = 2;
                    d.refusal = r.code;
                }
            }
        }

        int worth(Block b, Actor a) {
            if (b == null) return 0;
            int f, s;
            switch (b.kind) {
                case 13: return b.n;
                case 14: return a.value;
                case 15:
                    f = worth(b.holes[3], a);
                    s = worth(b.holes[4], a);
                    return f + s;
                case 16: return stage.cells[a.y][a.x];
                case 17:
                    f = worth(b.holes[3], a);
                    if (a.row == null) throw new Refused(-11);
                    if (f < 0 || f >= a.row.length) throw new Refused(-12);
                    return a.row[f];
                case 18:
                    f = worth(b.holes[3], a);
                    s = worth(b.holes[4], a);
                    if (s == 0) throw new Refused(-15);
                    return (int) ((long) f / (long) s);
                case 19: return walled(a) ? 1 : 0;
                case 20:
                    f = worth(b.holes[3], a);
                    s = worth(b.holes[4], a);
                    return f < s ? 1 : 0;
                case 21: return worth(b.holes[3], a) == 0 ? 1 : 0;
                case 22: return met(a) ? 1 : 0;
                default: throw new IllegalStateException();
            }
        }

        void step(Actor a, int number, Doing d) {
            Block b = d.at;
            int f, s;
            switch (b.kind) {
                case 0:
                    if (walled(a)) {
                        a.bumped++;
                    } else {
                        int[] c = ahead(a);
                        a.x = c[0];
                        a.y = c[1];
                    }
                    break;
                case 1: a.heading = (a.heading + b.n) % 4; break;
                case 2:
                    if (stage.cells[a.y][a.x] > 0) {
                        stage.cells[a.y][a.x]--;
                        a.value++;
                    }
                    break;
                case 3:
                    if (a.value > 0 && stage.cells[a.y][a.x] < 9) {
                        stage.cells[a.y][a.x]++;
                        a.value--;
                    }
                    break;
                case 4: a.value = worth(b.holes[3], a); break;
                case 5: said.add(new int[] {number, worth(b.holes[3], a), tick}); break;
                case 6: sent.add(b.n); break;
                case 7: break;
                case 8:
                    f = worth(b.holes[3], a);
                    if (f < 0) throw new Refused(-14);
                    a.row = new int[Math.min(f, 20)];
                    break;
                case 9:
                    f = worth(b.holes[3], a);
                    s = worth(b.holes[4], a);
                    if (a.row == null) throw new Refused(-11);
                    if (f < 0 || f >= a.row.length) throw new Refused(-12);
                    a.row[f] = s;
                    break;
                case 10:
                    if (d.above) turns.put(b, Math.max(0, Math.min(99, worth(b.holes[3], a))));
                    if (turns.get(b) > 0) {
                        turns.put(b, turns.get(b) - 1);
                        into(d, b, b.holes[1]);
                        return;
                    }
                    break;
                case 11:
                    if (worth(b.holes[3], a) != 0) {
                        into(d, b, b.holes[1]);
                        return;
                    }
                    break;
                case 12:
                    Block branch = worth(b.holes[3], a) != 0 ? b.holes[1] : b.holes[2];
                    if (branch != null) {
                        into(d, b, branch);
                        return;
                    }
                    break;
                default: throw new IllegalStateException();
            }
            on(d, b);
        }

        void into(Doing d, Block shell, Block body) {
            d.at = body == null ? shell : body;
            d.above = body != null;
        }

        void on(Doing d, Block b) {
            if (b.holes[0] != null) {
                d.at = b.holes[0];
                d.above = true;
                return;
            }
            Block first = b;
            while (first.in != null && first.where == 0) first = first.in;
            if (first.in == null) {
                d.at = null;
                d.state = 0;
            } else if (first.in.kind == 12) {
                on(d, first.in);
            } else {
                d.at = first.in;
                d.above = false;
            }
        }
    }

    private static final class Part {
        String when, field;
        int actor;
        char op;
        int number;

        boolean so(Run run) {
            int v;
            if (field.equals("g")) v = run.stage.things();
            else if (field.equals("s")) v = run.said.size();
            else if (actor >= run.stage.actors.size()) return false;
            else {
                Actor a = run.stage.actors.get(actor);
                switch (field.charAt(0)) {
                    case 'x': v = a.x; break;
                    case 'y': v = a.y; break;
                    case 'v': v = a.value; break;
                    case 'h': v = a.heading; break;
                    default: v = a.bumped; break;
                }
            }
            return op == '<' ? v < number : op == '>' ? v > number : v == number;
        }
    }

    private Stage beginning = new Stage(4, 4);
    private final List<Stage> kept = new ArrayList<>();
    private final Program program = new Program();
    /** The run at each tick from 0 to now; none where there is no run. */
    private List<Run> ticks = null;
    private StringBuilder tape = new StringBuilder();
    private List<Part> wish = new ArrayList<>();
    private int[] failed = null;
    private List<int[]> changes = new ArrayList<>();
    private String text = "";
    private List<Integer> trace = new ArrayList<>();
    private final int[][] sheets = new int[3][];
    private final int[] sorts = new int[3];

    private Run now() {
        return ticks == null ? null : ticks.get(ticks.size() - 1);
    }

    private Stage shown() {
        return ticks == null ? beginning : now().stage;
    }

    private int changed(int answer) {
        ticks = null;
        return answer;
    }

    public int stage(int w, int h) {
        if (w < 1 || w > 8 || h < 1 || h > 8) return BAD;
        beginning = new Stage(w, h);
        return changed(1);
    }

    private boolean actorAt(int x, int y) {
        for (Actor a : beginning.actors) if (a.x == x && a.y == y) return true;
        return false;
    }

    public int wall(int x, int y, int is) {
        if (!beginning.has(x, y)) return NONE;
        if (is < 0 || is > 1) return BAD;
        int was = beginning.cells[y][x];
        if (actorAt(x, y) || was > 0) return STATE;
        beginning.cells[y][x] = -is;
        return changed(-was);
    }

    public int things(int x, int y, int n) {
        if (!beginning.has(x, y)) return NONE;
        if (n < 0 || n > 9) return BAD;
        int was = beginning.cells[y][x];
        if (was < 0) return STATE;
        beginning.cells[y][x] = n;
        return changed(was);
    }

    public int actor(int x, int y, int heading) {
        if (!beginning.has(x, y)) return NONE;
        if (heading < 0 || heading > 3) return BAD;
        if (beginning.cells[y][x] < 0) return STATE;
        if (beginning.actors.size() == 3) return FULL;
        Actor a = new Actor();
        a.x = x;
        a.y = y;
        a.heading = heading;
        beginning.actors.add(a);
        return changed(beginning.actors.size() - 1);
    }

    public int lay(int sheet, int sort, int i) {
        if (sheet < 0 || sheet > 2 || sort < 0 || sort > 2) return BAD;
        if (sheets[sheet] != null && sorts[sheet] != sort) return -13;
        if (sheets[sheet] == null) return -11;
        Stage s = beginning.copy();
        if (i < 0 || (long) i + s.w * s.h > sheets[sheet].length) return -12;
        for (int y = 0; y < s.h; y++) {
            for (int x = 0; x < s.w; x++) {
                int v = sheets[sheet][i + y * s.w + x];
                if (v < -1 || v > 9 || v == -1 && actorAt(x, y)) return STATE;
                s.cells[y][x] = v;
            }
        }
        beginning = s;
        return changed(1);
    }

    public int keep() {
        if (kept.size() == 4) return FULL;
        kept.add(beginning.copy());
        return kept.size() - 1;
    }

    public int use(int k) {
        if (k < 0 || k >= kept.size()) return NONE;
        beginning = kept.get(k).copy();
        return changed(1);
    }

    private Block blockAt(int b) {
        return b < 0 || b >= program.blocks.size() ? null : program.blocks.get(b);
    }

    private Script scriptAt(int s) {
        return s < 0 || s >= program.scripts.size() ? null : program.scripts.get(s);
    }

    private static boolean rightNumber(int kind, int n) {
        if (kind == 1 || kind == 6) return 0 <= n && n <= 3;
        if (kind == 13) return -99 <= n && n <= 99;
        return n == 0;
    }

    public int block(int kind, int n) {
        if (kind < 0 || kind > 22 || !rightNumber(kind, n)) return BAD;
        if (program.blocks.size() == 30) return FULL;
        Block b = new Block();
        b.id = program.blocks.size();
        b.kind = kind;
        b.n = n;
        program.blocks.add(b);
        return changed(b.id);
    }

    private static boolean hasHole(Block b, int hole) {
        return b != null && hole >= 0 && hole <= 4 && HOLES[b.kind].indexOf('0' + hole) >= 0;
    }

    private static boolean inside(Block b, Block root) {
        if (root == null) return false;
        if (root == b) return true;
        for (Block c : root.holes) if (inside(b, c)) return true;
        return false;
    }

    public int join(int block, int hole, int other) {
        Block b = blockAt(block);
        Block o = blockAt(other);
        if (b == null || o == null || !hasHole(b, hole)) return NONE;
        if (b.holes[hole] != null || !o.free()) return STATE;
        boolean fits = hole <= 2 ? o.kind <= 12
            : hole == 3 && (b.kind == 11 || b.kind == 12 || b.kind == 21) ? o.kind >= 19 : o.kind >= 13;
        if (!fits || inside(b, o)) return BAD;
        program.push(b, hole, null, o);
        return changed(1);
    }

    public int take(int block) {
        Block b = blockAt(block);
        if (b == null) return NONE;
        if (b.free()) return STATE;
        program.pull(b);
        return changed(1);
    }

    public int number(int block, int v) {
        Block b = blockAt(block);
        if (b == null) return NONE;
        if (b.kind != 1 && b.kind != 6 && b.kind != 13 || !rightNumber(b.kind, v)) return BAD;
        int was = b.n;
        b.n = v;
        return changed(was);
    }

    public int cue(int actor, int cap, int c, int again) {
        if (actor < 0 || actor > 2) return NONE;
        if (cap < 0 || cap > 3 || again < 0 || again > 1) return BAD;
        if (cap == 1 ? c < 0 || c > 3 : cap == 2 ? c < 1 || c > 9 : c != 0) return BAD;
        if (program.scripts.size() == 6) return FULL;
        Script s = new Script();
        s.id = program.scripts.size();
        s.actor = actor;
        s.cap = cap;
        s.c = c;
        s.again = again;
        program.scripts.add(s);
        return changed(s.id);
    }

    public int top(int script, int block) {
        Script s = scriptAt(script);
        Block b = blockAt(block);
        if (s == null || b == null) return NONE;
        if (s.top != null || !b.free()) return STATE;
        if (b.kind > 12) return BAD;
        program.push(null, -1, s, b);
        return changed(1);
    }

    public int look(int x, int y) {
        return shown().has(x, y) ? shown().cells[y][x] : -5;
    }

    public int hole(int block, int hole) {
        Block b = blockAt(block);
        if (!hasHole(b, hole)) return -5;
        return b.holes[hole] == null ? NONE : b.holes[hole].id;
    }

    public int of(int block, int what) {
        Block b = blockAt(block);
        if (b == null || what < 0 || what > 4) return NO;
        int[] told = {b.kind, b.n, b.in == null ? -1 : b.in.id, b.where, b.topOf == null ? -1 : b.topOf.id};
        return told[what];
    }

    public int scriptOf(int script, int what) {
        Script s = scriptAt(script);
        if (s == null || what < 0 || what > 7) return NO;
        Doing d = ticks == null ? new Doing() : now().doings.get(script);
        int[] told = {s.actor, s.cap, s.c, s.again, s.top == null ? -1 : s.top.id,
            d.state, d.at == null ? -1 : d.at.id, d.refusal};
        return told[what];
    }

    public int flag() {
        ticks = new ArrayList<>();
        ticks.add(new Run(program, beginning));
        return 1;
    }

    public int tick(int n) {
        if (ticks == null) return STATE;
        if (n < 1 || n > 100) return BAD;
        if (now().tick + n > 300) return FULL;
        for (int i = 0; i < n; i++) {
            Run next = now().copy();
            next.oneTick();
            ticks.add(next);
        }
        return now().tick;
    }

    public int back(int n) {
        if (ticks == null) return STATE;
        if (n < 0 || n >= ticks.size()) return BAD;
        for (int i = 0; i < n; i++) ticks.remove(ticks.size() - 1);
        return now().tick;
    }

    public int who(int actor, int what) {
        if (actor < 0 || actor >= shown().actors.size() || what < 0 || what > 5) return NO;
        Actor a = shown().actors.get(actor);
        return new int[] {a.x, a.y, a.heading, a.value, a.bumped, a.row == null ? -1 : a.row.length}[what];
    }

    public int item(int actor, int i) {
        if (actor < 0 || actor >= shown().actors.size()) return NO;
        int[] row = shown().actors.get(actor).row;
        return row == null || i < 0 || i >= row.length ? NO : row[i];
    }

    public int said(int i, int what) {
        if (ticks == null || i < 0 || i >= 50 || i >= now().said.size() || what < 0 || what > 2) return NO;
        return now().said.get(i)[what];
    }

    public int feed(int bytes, int n) {
        if (n < 0 || n > 4) return BAD;
        if (tape.length() + n > 80) return FULL;
        for (int i = n; i > 0; i--) tape.append((char) (bytes >>> 8 * (i - 1) & 0xff));
        return tape.length();
    }

    private static final String PART = "(end|always|never|once) ([xyvhb][012]|[gs])([<=>])(-?[0-9]{1,3})";
    private static final Pattern WISH = Pattern.compile(PART + "( and " + PART + "){0,3}", Pattern.DOTALL);
    private static final Pattern ONE = Pattern.compile(PART);

    public int wish() {
        String told = tape.toString();
        tape = new StringBuilder();
        if (!WISH.matcher(told).matches()) {
            for (int i = 1; i <= told.length(); i++) {
                Matcher m = WISH.matcher(told.substring(0, i));
                if (!m.matches() && !m.hitEnd()) return -10 - (i - 1);
            }
            return -10 - told.length();
        }
        wish = new ArrayList<>();
        for (String each : told.split(" and ")) {
            Matcher m = ONE.matcher(each);
            if (!m.matches()) throw new IllegalStateException();
            Part p = new Part();
            p.when = m.group(1);
            p.field = m.group(2).substring(0, 1);
            p.actor = m.group(2).length() > 1 ? m.group(2).charAt(1) - '0' : -1;
            p.op = m.group(3).charAt(0);
            p.number = Integer.parseInt(m.group(4));
            wish.add(p);
        }
        return wish.size();
    }

    /** Where a program fails by t: stage and tick; nothing, if it is right. */
    private int[] failing(Program of, int t) {
        for (int k = 0; k < kept.size(); k++) {
            int lost = Integer.MAX_VALUE;
            for (Part p : wish) lost = Math.min(lost, lost(p, new Run(of, kept.get(k)), t));
            if (lost < Integer.MAX_VALUE) return new int[] {k, lost};
        }
        return null;
    }

    private static int lost(Part p, Run run, int t) {
        boolean[] so = new boolean[t + 1];
        boolean once = false;
        for (int i = 0; i <= t; i++) {
            if (i > 0) run.oneTick();
            so[i] = p.so(run);
            once |= so[i];
            if (p.when.equals("always") && !so[i] || p.when.equals("never") && so[i]) return i;
        }
        if (p.when.equals("end") && !so[t] || p.when.equals("once") && !once) return t;
        return Integer.MAX_VALUE;
    }

    public int mark(int t) {
        if (t < 1 || t > 40) return BAD;
        if (wish.isEmpty() || kept.isEmpty()) return STATE;
        int[] at = failing(program, t);
        failed = at == null ? new int[] {-1, -1} : at;
        return at == null ? 1 : 0;
    }

    public int fails(int what) {
        if (failed == null) return STATE;
        return what < 0 || what > 1 ? BAD : failed[what];
    }

    public int least(int t) {
        if (t < 1 || t > 40) return BAD;
        if (wish.isEmpty() || kept.isEmpty() || program.blocks.size() > 8) return STATE;
        for (int most = 0; most <= 2; most++) {
            List<int[]> row = new ArrayList<>();
            if (seek(program, most, t, row)) {
                changes = row;
                return most;
            }
        }
        changes = new ArrayList<>();
        return NONE;
    }

    private boolean seek(Program from, int most, int t, List<int[]> row) {
        if (most == 0) return failing(from, t) == null;
        for (int b = 0; b < from.blocks.size(); b++) {
            for (int which = 0; which < 4; which++) {
                Program p = from.copy();
                if (!p.change(b, which)) continue;
                row.add(new int[] {b, which});
                if (seek(p, most - 1, t, row)) return true;
                row.remove(row.size() - 1);
            }
        }
        return false;
    }

    /** A wish that one or two changes by chance meet on the first kept stage, and the program, if it goes, not. */
    String wishOfChanges(java.util.Random random, int t) {
        Program changed = program.copy();
        int most = 1 + random.nextInt(2);
        for (int i = 0, made = 0; i < 40 && made < most && !changed.blocks.isEmpty(); i++) {
            if (changed.change(random.nextInt(changed.blocks.size()), random.nextInt(4))) made++;
        }
        List<String> parts = partsAt(changed, t);
        java.util.Collections.shuffle(parts, random);
        List<String> now = partsAt(program, t);
        parts.sort((p, q) -> Boolean.compare(now.contains(p), now.contains(q)));
        return String.join(" and ", parts.subList(0, Math.min(parts.size(), 1 + random.nextInt(4))));
    }

    private List<String> partsAt(Program of, int t) {
        Run run = new Run(of, kept.get(0));
        for (int i = 0; i < t; i++) run.oneTick();
        List<String> parts = new ArrayList<>();
        parts.add("end g=" + run.stage.things());
        parts.add("end s=" + run.said.size());
        for (int i = 0; i < run.stage.actors.size(); i++) {
            Actor a = run.stage.actors.get(i);
            int[] values = {a.x, a.y, a.heading, a.value, a.bumped};
            for (int f = 0; f < 5; f++) {
                if (Math.abs(values[f]) <= 999) parts.add("end " + "xyhvb".charAt(f) + i + "=" + values[f]);
            }
        }
        return parts;
    }

    public int hint(int i, int what) {
        return i < 0 || i >= changes.size() || what < 0 || what > 1 ? -5 : changes.get(i)[what];
    }

    private static String textOf(Block b) {
        if (b == null) return "";
        String s = "" + (char) (97 + b.kind);
        if (b.kind == 1 || b.kind == 6 || b.kind == 13) s += b.n;
        for (int hole : new int[] {3, 4, 1, 2}) if (hasHole(b, hole)) s += "(" + textOf(b.holes[hole]) + ")";
        return s + textOf(b.holes[0]);
    }

    public int write(int script) {
        Script s = scriptAt(script);
        if (s == null) return NONE;
        if (s.top == null) return STATE;
        text = textOf(s.top);
        return text.length();
    }

    public int text(int i) {
        return i < 0 || i >= text.length() ? NONE : text.charAt(i);
    }

    /** The families from a block's own one up to any. */
    private static int[] familiesOf(int kind) {
        return kind < 10 ? new int[] {1, 0} : kind < 13 ? new int[] {2, 1, 0} : kind < 19 ? new int[] {3, 0} : new int[] {4, 3, 0};
    }

    private static final int[][] BODIES = {{10, 11, 12}, {20, 0, 0}, {0, 30, 31}, {0, 40, 0}, {50, 0, 51}};

    /** The body of an act from a family (the i-th of the block's) on. */
    private int body(Block b, int i, int act, int x) {
        int[] families = familiesOf(b.kind);
        while (BODIES[families[i]][act] == 0) i++;
        int number = BODIES[families[i]][act];
        trace.add(number);
        switch (number) {
            case 10: return x + b.id;
            case 11: return body(b, 0, 0, x) * 2;
            case 12: {
                int c = body(b, 0, 1, x);
                return c ^ body(b, 0, 0, x + b.n);
            }
            case 20: return body(b, i + 1, 0, x) - b.n;
            case 30: return body(b, i + 1, 1, x) + 3;
            case 31: return body(b, i + 1, 2, x + 1);
            case 40: return body(b, i + 1, 1, x) * 3;
            case 50: return body(b, i + 1, 0, x) ^ 7;
            default: {
                int c = body(b, 0, 1, x);
                return c - body(b, i + 1, 2, x);
            }
        }
    }

    public int act(int block, int act, int x) {
        trace = new ArrayList<>();
        Block b = blockAt(block);
        return b == null || act < 0 || act > 2 ? 0 : body(b, 0, act, x);
    }

    public int trace(int i) {
        return i < 0 || i >= trace.size() || i >= 30 ? NONE : trace.get(i);
    }

    public int taken(int block, int k) {
        if (k < 0 || k > 4) return BAD;
        Block b = blockAt(block);
        if (b == null) return -11;
        for (int f : familiesOf(b.kind)) if (f == k) return b.kind;
        return -13;
    }

    public int count(int what) {
        switch (what) {
            case 0: return program.blocks.size();
            case 1: return program.scripts.size();
            case 2: return beginning.actors.size();
            case 3: return kept.size();
            case 4: return ticks == null ? -1 : now().tick;
            case 5: return ticks == null ? 0 : now().said.size();
            case 6: return tape.length();
            case 7: return wish.size();
            case 8: return shown().things();
            case 9: return trace.size();
            default: return BAD;
        }
    }

    public int sheet(int sheet, int sort, int n) {
        if (sheet < 0 || sheet > 2 || sort < -1 || sort > 2) return BAD;
        if (sort >= 0 && n > 70) return BAD;
        if (sort >= 0 && n < 0) return -14;
        sheets[sheet] = sort < 0 ? null : new int[n];
        sorts[sheet] = sort;
        return 1;
    }

    public int cell(int sheet, int i, int v) {
        if (sheet < 0 || sheet > 2) return BAD;
        if (sheets[sheet] == null) return -11;
        if (i < 0 || i >= sheets[sheet].length) return -12;
        sheets[sheet][i] = sorts[sheet] == 0 ? (byte) v : sorts[sheet] == 1 ? (short) v : v;
        return 1;
    }

    public int copy(int sheet, int i, int other, int j, int n) {
        if (sheet < 0 || sheet > 2 || other < 0 || other > 2) return BAD;
        if (sheets[sheet] == null || sheets[other] == null) return -11;
        if (sorts[sheet] != sorts[other]) return -13;
        if (n < 0 || i < 0 || j < 0) return -12;
        if ((long) i + n > sheets[sheet].length || (long) j + n > sheets[other].length) return -12;
        int[] before = sheets[sheet].clone();
        for (int k = 0; k < n; k++) sheets[other][j + k] = before[i + k];
        return n;
    }
}
