import java.util.Arrays;

/** Blocks for beginners: stages, programs of blocks, runs, wishes, texts, acts and sheets. */
public final class BlockStage {
    public static final int NONE = -1, BAD = -2, STATE = -3, FULL = -4;
    public static final int NO = Integer.MIN_VALUE;

    private static final int NO_PLACE = -5;
    private static final int MISSING = -11, OUTSIDE = -12, OTHER_SORT = -13, TOO_FEW = -14, BY_ZERO = -15;

    private static final int MAX_BLOCKS = 30, MAX_SCRIPTS = 6, MAX_ACTORS = 3, MAX_KEPT = 4;
    private static final int MAX_TICKS = 300, MAX_TICKS_A_CALL = 100, MAX_TICKS_OF_MARK = 40;
    private static final int MAX_BLOCKS_OF_LEAST = 8, CHANGES = 4;
    private static final int MAX_TAPE = 80, MAX_FED = 4;
    /** No text is longer: 30 blocks of a byte, a number of three and three holes of two. */
    private static final int MAX_TEXT = MAX_BLOCKS * 10;

    private static final int HOLES = 5, NEXT = 0, BODY = 1, OTHER = 2, FIRST = 3, SECOND = 4;

    private static final int GO = 0, TURN = 1, TAKE = 2, PUT = 3, SET = 4, SAY = 5, CALL = 6;
    private static final int MAKE = 8, LAY = 9, REPEAT = 10, WHILE = 11, IF = 12;
    private static final int NUMBER = 13, MINE = 14, SUM = 15, HERE = 16, ITEM = 17, PART = 18;
    private static final int WALLED = 19, LESS = 20, NOT = 21, MET = 22;
    private static final int KINDS = 23;

    /** Of each kind the sum of 1 << hole over the holes that it has. */
    private static final int[] HOLES_OF_KIND = {
        1, 1, 1, 1, 9, 9, 1, 1, 9, 25, 11, 11, 15,
        0, 0, 24, 0, 8, 24, 0, 24, 8, 0};

    private static final int ON_FLAG = 0, ON_CALL = 1, ON_TICKS = 2, ON_MEETING = 3;

    private static final int WALL = -1;

    private final Program program = new Program();
    private final Program changedOnce = new Program();
    private final Stage beginning = new Stage();
    private final Stage[] kept = new Stage[MAX_KEPT];
    private int keptCount = 0;
    private final Run live = new Run();
    private final Run trial = new Run();
    private final Bytes tape = new Bytes(MAX_TAPE);
    private final Bytes written = new Bytes(MAX_TEXT);
    private Wish wished = new Wish();
    private Wish draft = new Wish();
    private final Sheets sheets = new Sheets();
    private Family latestAct = null;
    private boolean marked = false;
    private int failStage = NONE;
    private int failTick = NONE;
    private final int[] hints = new int[4];
    private int hintCount = 0;

    public BlockStage() {
        for (int k = 0; k < MAX_KEPT; k++) kept[k] = new Stage();
    }

    // ---- the stage

    public int stage(int w, int h) {
        if (w < 1 || w > Stage.SIDE || h < 1 || h > Stage.SIDE) return BAD;
        beginning.empty(w, h);
        live.on = false;
        return 1;
    }

    public int wall(int x, int y, int is) {
        int was = beginning.cellAt(x, y);
        if (was == NO_PLACE) return NONE;
        if (is != 0 && is != 1) return BAD;
        if (was > 0 || beginning.hasActorAt(x, y)) return STATE;
        beginning.setCell(x, y, is == 1 ? WALL : 0);
        live.on = false;
        return was == WALL ? 1 : 0;
    }

    public int things(int x, int y, int n) {
        int was = beginning.cellAt(x, y);
        if (was == NO_PLACE) return NONE;
        if (n < 0 || n > Stage.MAX_THINGS) return BAD;
        if (was == WALL) return STATE;
        beginning.setCell(x, y, n);
        live.on = false;
        return was;
    }

    public int actor(int x, int y, int heading) {
        int cell = beginning.cellAt(x, y);
        if (cell == NO_PLACE) return NONE;
        if (heading < 0 || heading > 3) return BAD;
        if (cell == WALL) return STATE;
        if (beginning.actors >= MAX_ACTORS) return FULL;
        live.on = false;
        return beginning.addActor(x, y, heading);
    }

    public int lay(int sheet, int sort, int i) {
        if (!Sheets.isSheet(sheet) || !Sheets.isSort(sort)) return BAD;
        if (sheets.isMissing(sheet)) return MISSING;
        if (sheets.sortOf(sheet) != sort) return OTHER_SORT;
        if (!sheets.hasItems(sheet, i, beginning.width * beginning.height)) return OUTSIDE;
        if (!beginning.takesCells(sheets, sheet, i)) return STATE;
        beginning.setCells(sheets, sheet, i);
        live.on = false;
        return 1;
    }

    public int keep() {
        if (keptCount < 0 || keptCount >= MAX_KEPT) return FULL;
        Stage stage = kept[keptCount];
        if (stage == null) return FULL;
        stage.copyFrom(beginning);
        keptCount++;
        return keptCount - 1;
    }

    public int use(int k) {
        Stage stage = keptAt(k);
        if (stage == null) return NONE;
        beginning.copyFrom(stage);
        live.on = false;
        return 1;
    }

    private Stage keptAt(int k) {
        if (k < 0 || k >= keptCount || k >= MAX_KEPT) return null;
        return kept[k];
    }

    // ---- blocks

    public int block(int kind, int n) {
        if (kind < 0 || kind >= KINDS || !isNumberOf(kind, n)) return BAD;
        if (program.blocks >= MAX_BLOCKS) return FULL;
        live.on = false;
        return program.addBlock(kind, n);
    }

    public int join(int block, int hole, int other) {
        if (!program.isBlock(block) || !program.isBlock(other)) return NONE;
        if (!program.hasHole(block, hole)) return NONE;
        if (program.inHole(block, hole) != NONE || !program.isLoose(other)) return STATE;
        if (!fits(program.kindOf(block), hole, program.kindOf(other))) return BAD;
        if (program.isWithin(block, other)) return BAD;
        program.attach(block, hole, other);
        live.on = false;
        return 1;
    }

    public int take(int block) {
        if (!program.isBlock(block)) return NONE;
        if (program.isLoose(block)) return STATE;
        program.detach(block);
        live.on = false;
        return 1;
    }

    public int number(int block, int v) {
        if (!program.isBlock(block)) return NONE;
        int kind = program.kindOf(block);
        if (!hasNumber(kind) || !isNumberOf(kind, v)) return BAD;
        int was = program.numberOf(block);
        program.setNumber(block, v);
        live.on = false;
        return was;
    }

    public int cue(int actor, int cap, int c, int again) {
        if (actor < 0 || actor >= MAX_ACTORS) return NONE;
        if (cap < ON_FLAG || cap > ON_MEETING || !isNumberOfCap(cap, c)) return BAD;
        if (again != 0 && again != 1) return BAD;
        if (program.scripts >= MAX_SCRIPTS) return FULL;
        live.on = false;
        return program.addScript(actor, cap, c, again);
    }

    public int top(int script, int block) {
        if (!program.isScript(script) || !program.isBlock(block)) return NONE;
        if (program.topOf(script) != NONE || !program.isLoose(block)) return STATE;
        if (!isOrder(program.kindOf(block))) return BAD;
        program.attachTop(script, block);
        live.on = false;
        return 1;
    }

    // ---- looking

    public int look(int x, int y) {
        return shown().cellAt(x, y);
    }

    public int hole(int block, int hole) {
        if (!program.hasHole(block, hole)) return NO_PLACE;
        return program.inHole(block, hole);
    }

    public int of(int block, int what) {
        return program.blockPart(block, what);
    }

    public int scriptOf(int script, int what) {
        if (!program.isScript(script)) return NO;
        switch (what) {
            case 5: return live.on ? live.stateOf(script) : Run.ASLEEP;
            case 6: return live.on ? live.placeOf(script) : NONE;
            case 7: return live.on ? live.refusalOf(script) : 0;
            default: return program.scriptPart(script, what);
        }
    }

    /** What is looked at: the stage of the run, or the beginning where there is none. */
    private Stage shown() {
        return live.on ? live.stage : beginning;
    }

    // ---- runs

    public int flag() {
        live.program.copyFrom(program);
        live.begin(beginning);
        return 1;
    }

    public int tick(int n) {
        if (!live.on) return STATE;
        if (n < 1 || n > MAX_TICKS_A_CALL) return BAD;
        if (live.ticks + n > MAX_TICKS) return FULL;
        for (int i = 0; i < n; i++) live.oneTick();
        return live.ticks;
    }

    public int back(int n) {
        if (!live.on) return STATE;
        if (n < 0 || n > live.ticks) return BAD;
        int until = live.ticks - n;
        // What would change the beginning or the program ends the run: so it runs again just so.
        live.begin(beginning);
        for (int i = 0; i < until; i++) live.oneTick();
        return until;
    }

    public int who(int actor, int what) {
        return shown().actorPart(actor, what);
    }

    public int item(int actor, int i) {
        return shown().itemAt(actor, i);
    }

    public int said(int i, int what) {
        return live.on ? live.sayingPart(i, what) : NO;
    }

    // ---- wishes

    public int feed(int bytes, int n) {
        if (n < 0 || n > MAX_FED) return BAD;
        if (tape.length + n > MAX_TAPE) return FULL;
        for (int i = n - 1; i >= 0; i--) tape.add(bytes >> (8 * i) & 255);
        return tape.length;
    }

    public int wish() {
        int fault = draft.read(tape);
        tape.clear();
        if (fault != NONE) return -10 - fault;
        Wish old = wished;
        wished = draft;
        draft = old;
        return wished.parts;
    }

    public int mark(int t) {
        if (t < 1 || t > MAX_TICKS_OF_MARK) return BAD;
        if (!canMark()) return STATE;
        trial.program.copyFrom(program);
        marked = true;
        failStage = NONE;
        failTick = NONE;
        for (int k = 0; k < keptCount; k++) {
            Stage stage = keptAt(k);
            int lost = stage == null ? NONE : wished.lostIn(trial, stage, t);
            if (lost != NONE) {
                failStage = k;
                failTick = lost;
                return 0;
            }
        }
        return 1;
    }

    public int fails(int what) {
        if (!marked) return STATE;
        if (what == 0) return failStage;
        if (what == 1) return failTick;
        return BAD;
    }

    public int least(int t) {
        if (t < 1 || t > MAX_TICKS_OF_MARK) return BAD;
        if (!canMark() || program.blocks > MAX_BLOCKS_OF_LEAST) return STATE;
        hintCount = 0;
        trial.program.copyFrom(program);
        if (isRight(t)) return 0;
        if (isRightByOne(t)) return 1;
        if (isRightByTwo(t)) return 2;
        return NONE;
    }

    public int hint(int i, int what) {
        if (i < 0 || i >= hintCount || what < 0 || what > 1) return NO_PLACE;
        int place = 2 * i + what;
        return place < hints.length ? hints[place] : NO_PLACE;
    }

    private boolean canMark() {
        return wished.parts > 0 && keptCount > 0;
    }

    private boolean isRight(int t) {
        for (int k = 0; k < keptCount; k++) {
            Stage stage = keptAt(k);
            if (stage != null && wished.lostIn(trial, stage, t) != NONE) return false;
        }
        return true;
    }

    private boolean isRightByOne(int t) {
        int rows = program.blocks * CHANGES;
        for (int row = 0; row < rows; row++) {
            trial.program.copyFrom(program);
            if (trial.program.change(row / CHANGES, row % CHANGES) && isRight(t)) {
                setHint(0, row);
                hintCount = 1;
                return true;
            }
        }
        return false;
    }

    private boolean isRightByTwo(int t) {
        int rows = program.blocks * CHANGES;
        for (int one = 0; one < rows; one++) {
            changedOnce.copyFrom(program);
            if (!changedOnce.change(one / CHANGES, one % CHANGES)) continue;
            for (int two = 0; two < rows; two++) {
                trial.program.copyFrom(changedOnce);
                if (trial.program.change(two / CHANGES, two % CHANGES) && isRight(t)) {
                    setHint(0, one);
                    setHint(1, two);
                    hintCount = 2;
                    return true;
                }
            }
        }
        return false;
    }

    private void setHint(int i, int row) {
        if (i < 0 || 2 * i + 1 >= hints.length) return;
        hints[2 * i] = row / CHANGES;
        hints[2 * i + 1] = row % CHANGES;
    }

    // ---- texts, acts

    public int write(int script) {
        if (!program.isScript(script)) return NONE;
        int top = program.topOf(script);
        if (top == NONE) return STATE;
        written.clear();
        program.spell(top, written, 0);
        return written.length;
    }

    public int text(int i) {
        return written.byteAt(i);
    }

    public int act(int block, int act, int x) {
        latestAct = null;
        if (!program.isBlock(block) || act < 0 || act > 2) return 0;
        Family body = familyOf(block);
        latestAct = body;
        if (act == 0) return body.runs(x);
        return act == 1 ? body.costs(x) : body.tells(x);
    }

    public int trace(int i) {
        return latestAct == null ? NONE : latestAct.bodyAt(i);
    }

    public int taken(int block, int k) {
        if (k < 0 || k > 4) return BAD;
        if (!program.isBlock(block)) return MISSING;
        int kind = program.kindOf(block);
        return isOfFamily(kind, k) ? kind : OTHER_SORT;
    }

    public int count(int what) {
        switch (what) {
            case 0: return program.blocks;
            case 1: return program.scripts;
            case 2: return beginning.actors;
            case 3: return keptCount;
            case 4: return live.on ? live.ticks : NONE;
            case 5: return live.on ? live.sayings : 0;
            case 6: return tape.length;
            case 7: return wished.parts;
            case 8: return shown().allThings();
            case 9: return latestAct == null ? 0 : latestAct.ran;
            default: return BAD;
        }
    }

    private Family familyOf(int block) {
        int kind = program.kindOf(block);
        int n = program.numberOf(block);
        if (isShell(kind)) return new Shells(block, n);
        if (isOrder(kind)) return new Orders(block, n);
        if (isSharp(kind)) return new Sharps(block, n);
        return new Rounds(block, n);
    }

    // ---- sheets

    public int sheet(int sheet, int sort, int n) {
        if (!Sheets.isSheet(sheet)) return BAD;
        if (sort == Sheets.NO_SORT) {
            sheets.remake(sheet, Sheets.NO_SORT, 0);
            return 1;
        }
        if (!Sheets.isSort(sort) || n > Sheets.MAX_ITEMS) return BAD;
        if (n < 0) return TOO_FEW;
        sheets.remake(sheet, sort, n);
        return 1;
    }

    public int cell(int sheet, int i, int v) {
        if (!Sheets.isSheet(sheet)) return BAD;
        if (sheets.isMissing(sheet)) return MISSING;
        if (!sheets.hasItems(sheet, i, 1)) return OUTSIDE;
        sheets.setItem(sheet, i, v);
        return 1;
    }

    public int copy(int sheet, int i, int other, int j, int n) {
        if (!Sheets.isSheet(sheet) || !Sheets.isSheet(other)) return BAD;
        if (sheets.isMissing(sheet) || sheets.isMissing(other)) return MISSING;
        if (sheets.sortOf(sheet) != sheets.sortOf(other)) return OTHER_SORT;
        if (!sheets.hasItems(sheet, i, n) || !sheets.hasItems(other, j, n)) return OUTSIDE;
        sheets.move(sheet, i, other, j, n);
        return n;
    }

    // ---- kinds and caps

    private static boolean isOrder(int kind) {
        return kind >= GO && kind <= IF;
    }

    private static boolean isShell(int kind) {
        return kind >= REPEAT && kind <= IF;
    }

    private static boolean isRound(int kind) {
        return kind >= NUMBER && kind <= MET;
    }

    private static boolean isSharp(int kind) {
        return kind >= WALLED && kind <= MET;
    }

    private static boolean isOfFamily(int kind, int k) {
        switch (k) {
            case 1: return isOrder(kind);
            case 2: return isShell(kind);
            case 3: return isRound(kind);
            case 4: return isSharp(kind);
            default: return true;
        }
    }

    private static boolean hasNumber(int kind) {
        return kind == TURN || kind == CALL || kind == NUMBER;
    }

    private static boolean isNumberOf(int kind, int n) {
        if (kind == TURN || kind == CALL) return n >= 0 && n <= 3;
        if (kind == NUMBER) return n >= -99 && n <= 99;
        return n == 0;
    }

    private static boolean isNumberOfCap(int cap, int c) {
        if (cap == ON_CALL) return c >= 0 && c <= 3;
        if (cap == ON_TICKS) return c >= 1 && c <= 9;
        return c == 0;
    }

    private static boolean fits(int host, int hole, int kind) {
        if (hole == NEXT || hole == BODY || hole == OTHER) return isOrder(kind);
        boolean wantsSharp = hole == FIRST && (host == WHILE || host == IF || host == NOT);
        return wantsSharp ? isSharp(kind) : isRound(kind);
    }

    /** A stage of cells and actors; a cell is WALL, or how many things lie there. */
    private static final class Stage {
        static final int SIDE = 8, MAX_THINGS = 9, MAX_ROW = 20;
        /** Cells stand in rows with a border of walls, so that each has one ahead. */
        private static final int STRIDE = SIDE + 2;
        private static final int[] STEPS = {-10, 1, 10, -1};

        int width = 0;
        int height = 0;
        int actors = 0;
        private final int[] cells = new int[STRIDE * STRIDE];
        private final int[] places = new int[MAX_ACTORS];
        private final int[] headings = new int[MAX_ACTORS];
        private final int[] values = new int[MAX_ACTORS];
        private final int[] bumps = new int[MAX_ACTORS];
        private final int[] rowLengths = new int[MAX_ACTORS];
        private final int[] rows = new int[MAX_ACTORS * MAX_ROW];

        Stage() {
            empty(4, 4);
        }

        void empty(int w, int h) {
            width = w;
            height = h;
            actors = 0;
            Arrays.fill(cells, WALL);
            for (int y = 0; y < h; y++) {
                for (int x = 0; x < w; x++) setCell(x, y, 0);
            }
        }

        void copyFrom(Stage other) {
            width = other.width;
            height = other.height;
            actors = other.actors;
            System.arraycopy(other.cells, 0, cells, 0, cells.length);
            System.arraycopy(other.places, 0, places, 0, MAX_ACTORS);
            System.arraycopy(other.headings, 0, headings, 0, MAX_ACTORS);
            System.arraycopy(other.values, 0, values, 0, MAX_ACTORS);
            System.arraycopy(other.bumps, 0, bumps, 0, MAX_ACTORS);
            System.arraycopy(other.rowLengths, 0, rowLengths, 0, MAX_ACTORS);
            System.arraycopy(other.rows, 0, rows, 0, rows.length);
        }

        /** The place of a cell in the row of cells, or NONE. */
        private int placeOf(int x, int y) {
            if (x < 0 || y < 0 || x >= width || y >= height) return NONE;
            return (y + 1) * STRIDE + x + 1;
        }

        int cellAt(int x, int y) {
            int place = placeOf(x, y);
            return place >= 0 && place < cells.length ? cells[place] : NO_PLACE;
        }

        void setCell(int x, int y, int v) {
            int place = placeOf(x, y);
            if (place >= 0 && place < cells.length) cells[place] = v;
        }

        boolean hasActorAt(int x, int y) {
            int place = placeOf(x, y);
            for (int a = 0; a < actors; a++) {
                if (places[a] == place) return true;
            }
            return false;
        }

        int allThings() {
            int sum = 0;
            for (int place = 0; place < cells.length; place++) {
                if (cells[place] > 0) sum += cells[place];
            }
            return sum;
        }

        /** Whether the items of a sheet from one on can be all cells. */
        boolean takesCells(Sheets sheets, int sheet, int from) {
            for (int y = 0; y < height; y++) {
                for (int x = 0; x < width; x++) {
                    int v = sheets.itemAt(sheet, from + y * width + x);
                    if (v < WALL || v > MAX_THINGS) return false;
                    if (v == WALL && hasActorAt(x, y)) return false;
                }
            }
            return true;
        }

        void setCells(Sheets sheets, int sheet, int from) {
            for (int y = 0; y < height; y++) {
                for (int x = 0; x < width; x++) {
                    setCell(x, y, sheets.itemAt(sheet, from + y * width + x));
                }
            }
        }

        int addActor(int x, int y, int heading) {
            int a = actors;
            if (a < 0 || a >= MAX_ACTORS) return FULL;
            places[a] = placeOf(x, y);
            headings[a] = heading;
            values[a] = 0;
            bumps[a] = 0;
            rowLengths[a] = NONE;
            actors = a + 1;
            return a;
        }

        boolean isActor(int a) {
            return a >= 0 && a < actors;
        }

        /** The number of an actor that who() and wishes know by what. */
        int actorPart(int a, int what) {
            if (a < 0 || a >= actors) return NO;
            switch (what) {
                case 0: return places[a] % STRIDE - 1;
                case 1: return places[a] / STRIDE - 1;
                case 2: return headings[a];
                case 3: return values[a];
                case 4: return bumps[a];
                case 5: return rowLengths[a];
                default: return NO;
            }
        }

        int valueOf(int a) {
            return a >= 0 && a < actors ? values[a] : 0;
        }

        void setValue(int a, int v) {
            if (a >= 0 && a < actors) values[a] = v;
        }

        int walledOf(int a) {
            if (a < 0 || a >= actors) return 1;
            int ahead = places[a] + STEPS[headings[a] & 3];
            return ahead < 0 || ahead >= cells.length || cells[ahead] == WALL ? 1 : 0;
        }

        int hereOf(int a) {
            if (a < 0 || a >= actors) return 0;
            int place = places[a];
            return place >= 0 && place < cells.length ? cells[place] : 0;
        }

        int metOf(int a) {
            if (a < 0 || a >= actors) return 0;
            for (int b = 0; b < actors; b++) {
                if (b != a && places[b] == places[a]) return 1;
            }
            return 0;
        }

        void goAhead(int a) {
            if (a < 0 || a >= actors) return;
            int ahead = places[a] + STEPS[headings[a] & 3];
            if (ahead < 0 || ahead >= cells.length || cells[ahead] == WALL) bumps[a]++;
            else places[a] = ahead;
        }

        void turnBy(int a, int n) {
            if (a >= 0 && a < actors) headings[a] = headings[a] + n & 3;
        }

        void takeThing(int a) {
            if (a < 0 || a >= actors) return;
            int place = places[a];
            if (place < 0 || place >= cells.length || cells[place] <= 0) return;
            cells[place]--;
            values[a]++;
        }

        void putThing(int a) {
            if (a < 0 || a >= actors || values[a] <= 0) return;
            int place = places[a];
            if (place < 0 || place >= cells.length || cells[place] >= MAX_THINGS) return;
            cells[place]++;
            values[a]--;
        }

        /** The refusal of a row of n for an actor, or 0: it has it. */
        int makeRow(int a, int n) {
            if (n < 0) return TOO_FEW;
            if (a < 0 || a >= actors) return 0;
            rowLengths[a] = Math.min(n, MAX_ROW);
            Arrays.fill(rows, a * MAX_ROW, a * MAX_ROW + MAX_ROW, 0);
            return 0;
        }

        /** The refusal of number i of an actor's row, or 0: it is there. */
        int refusalOfItem(int a, int i) {
            if (a < 0 || a >= actors || rowLengths[a] < 0) return MISSING;
            return i < 0 || i >= rowLengths[a] ? OUTSIDE : 0;
        }

        /** Number i of an actor's row, or NO. */
        int itemAt(int a, int i) {
            if (a < 0 || a >= actors || i < 0 || i >= rowLengths[a]) return NO;
            return rows[a * MAX_ROW + i];
        }

        void setItem(int a, int i, int v) {
            if (a < 0 || a >= actors || i < 0 || i >= rowLengths[a]) return;
            rows[a * MAX_ROW + i] = v;
        }
    }

    /** Blocks with what is in their holes, and scripts. */
    private static final class Program {
        private static final int PARTS = 5;
        private static final int KIND = 0, N = 1, IN = 2, WHERE = 3, TOP_OF = 4;
        private static final int ACTOR = 0, CAP = 1, C = 2, AGAIN = 3, TOP = 4;

        int blocks = 0;
        int scripts = 0;
        private final int[] blockParts = new int[MAX_BLOCKS * PARTS];
        private final int[] inHoles = new int[MAX_BLOCKS * HOLES];
        private final int[] scriptParts = new int[MAX_SCRIPTS * PARTS];

        void copyFrom(Program other) {
            blocks = other.blocks;
            scripts = other.scripts;
            System.arraycopy(other.blockParts, 0, blockParts, 0, blockParts.length);
            System.arraycopy(other.inHoles, 0, inHoles, 0, inHoles.length);
            System.arraycopy(other.scriptParts, 0, scriptParts, 0, scriptParts.length);
        }

        int addBlock(int kind, int n) {
            int b = blocks;
            if (b < 0 || b >= MAX_BLOCKS) return FULL;
            blockParts[b * PARTS + KIND] = kind;
            blockParts[b * PARTS + N] = n;
            blockParts[b * PARTS + IN] = NONE;
            blockParts[b * PARTS + WHERE] = NONE;
            blockParts[b * PARTS + TOP_OF] = NONE;
            Arrays.fill(inHoles, b * HOLES, b * HOLES + HOLES, NONE);
            blocks = b + 1;
            return b;
        }

        int addScript(int actor, int cap, int c, int again) {
            int s = scripts;
            if (s < 0 || s >= MAX_SCRIPTS) return FULL;
            scriptParts[s * PARTS + ACTOR] = actor;
            scriptParts[s * PARTS + CAP] = cap;
            scriptParts[s * PARTS + C] = c;
            scriptParts[s * PARTS + AGAIN] = again;
            scriptParts[s * PARTS + TOP] = NONE;
            scripts = s + 1;
            return s;
        }

        boolean isBlock(int b) {
            return b >= 0 && b < blocks;
        }

        boolean isScript(int s) {
            return s >= 0 && s < scripts;
        }

        int blockPart(int b, int what) {
            if (b < 0 || b >= blocks || what < 0 || what >= PARTS) return NO;
            return blockParts[b * PARTS + what];
        }

        int scriptPart(int s, int what) {
            if (s < 0 || s >= scripts || what < 0 || what >= PARTS) return NO;
            return scriptParts[s * PARTS + what];
        }

        int kindOf(int b) {
            return b >= 0 && b < blocks ? blockParts[b * PARTS + KIND] : NONE;
        }

        int numberOf(int b) {
            return b >= 0 && b < blocks ? blockParts[b * PARTS + N] : 0;
        }

        void setNumber(int b, int n) {
            if (b >= 0 && b < blocks) blockParts[b * PARTS + N] = n;
        }

        int actorOf(int s) {
            return s >= 0 && s < scripts ? scriptParts[s * PARTS + ACTOR] : NONE;
        }

        int capOf(int s) {
            return s >= 0 && s < scripts ? scriptParts[s * PARTS + CAP] : NONE;
        }

        int numberOfCap(int s) {
            return s >= 0 && s < scripts ? scriptParts[s * PARTS + C] : 0;
        }

        boolean isAgain(int s) {
            return s >= 0 && s < scripts && scriptParts[s * PARTS + AGAIN] == 1;
        }

        int topOf(int s) {
            return s >= 0 && s < scripts ? scriptParts[s * PARTS + TOP] : NONE;
        }

        boolean hasHole(int b, int hole) {
            if (b < 0 || b >= blocks || hole < 0 || hole >= HOLES) return false;
            int kind = blockParts[b * PARTS + KIND];
            return kind >= 0 && kind < HOLES_OF_KIND.length && (HOLES_OF_KIND[kind] >> hole & 1) == 1;
        }

        /** What is in a hole, or NONE; a hole that a block has not is always empty. */
        int inHole(int b, int hole) {
            if (b < 0 || b >= blocks || hole < 0 || hole >= HOLES) return NONE;
            return inHoles[b * HOLES + hole];
        }

        /** Whether a block is in no hole and no top. */
        boolean isLoose(int b) {
            if (b < 0 || b >= blocks) return false;
            return blockParts[b * PARTS + IN] == NONE && blockParts[b * PARTS + TOP_OF] == NONE;
        }

        /** Whether a block is another one, or is in its holes, however deep. */
        boolean isWithin(int b, int other) {
            int up = b;
            for (int i = 0; i < MAX_BLOCKS && up >= 0 && up < blocks; i++) {
                if (up == other) return true;
                up = blockParts[up * PARTS + IN];
            }
            return false;
        }

        void attach(int b, int hole, int other) {
            if (b < 0 || b >= blocks || hole < 0 || hole >= HOLES || other < 0 || other >= blocks) return;
            inHoles[b * HOLES + hole] = other;
            blockParts[other * PARTS + IN] = b;
            blockParts[other * PARTS + WHERE] = hole;
        }

        void attachTop(int s, int b) {
            if (s < 0 || s >= scripts || b < 0 || b >= blocks) return;
            scriptParts[s * PARTS + TOP] = b;
            blockParts[b * PARTS + TOP_OF] = s;
        }

        void detach(int b) {
            if (b < 0 || b >= blocks) return;
            int host = blockParts[b * PARTS + IN];
            int hole = blockParts[b * PARTS + WHERE];
            int s = blockParts[b * PARTS + TOP_OF];
            if (host >= 0 && host < blocks && hole >= 0 && hole < HOLES) inHoles[host * HOLES + hole] = NONE;
            if (s >= 0 && s < scripts) scriptParts[s * PARTS + TOP] = NONE;
            blockParts[b * PARTS + IN] = NONE;
            blockParts[b * PARTS + WHERE] = NONE;
            blockParts[b * PARTS + TOP_OF] = NONE;
        }

        /**
         * Where a script goes on behind a block: to a block (from above), to a shell that it
         * comes back to (Run.backTo), or NONE: it sleeps.
         */
        int goalBehind(int b) {
            int from = b;
            boolean byNext = true;
            for (int i = 0; i < MAX_BLOCKS && from >= 0 && from < blocks; i++) {
                int next = inHoles[from * HOLES + NEXT];
                if (byNext && next != NONE) return next;
                int host = blockParts[from * PARTS + IN];
                byNext = blockParts[from * PARTS + WHERE] != NEXT;
                if (byNext && host >= 0 && host < blocks && blockParts[host * PARTS + KIND] != IF) {
                    return Run.BACK - host;
                }
                from = host;
            }
            return NONE;
        }

        /** Makes a change of a block, if it can be: whether it could. */
        boolean change(int b, int which) {
            if (which == 1) return changeNumber(b, -1);
            if (which == 2) return changeNumber(b, 1);
            if (!isOrder(kindOf(b)) || isLoose(b)) return false;
            int next = inHole(b, NEXT);
            if (which == 0) {
                detach(next);
                putInPlace(b, next);
                return true;
            }
            if (next == NONE) return false;
            int third = inHole(next, NEXT);
            detach(next);
            detach(third);
            putInPlace(b, next);
            attach(next, NEXT, b);
            attach(b, NEXT, third);
            return true;
        }

        private boolean changeNumber(int b, int by) {
            int kind = kindOf(b);
            int n = numberOf(b) + by;
            if (kind == TURN) n = n & 3;
            else if (kind != NUMBER || !isNumberOf(kind, n)) return false;
            setNumber(b, n);
            return true;
        }

        /** Another block, or none, stands where a block was, which is loose then. */
        private void putInPlace(int b, int other) {
            int host = blockPart(b, IN);
            int hole = blockPart(b, WHERE);
            int s = blockPart(b, TOP_OF);
            detach(b);
            attach(host, hole, other);
            attachTop(s, other);
        }

        /** Writes the text of a block; a depth that no program has is not gone into. */
        private void spell(int b, Bytes text, int depth) {
            if (depth > MAX_BLOCKS) return;
            int each = b;
            for (int i = 0; i < MAX_BLOCKS && isBlock(each); i++) {
                int kind = kindOf(each);
                text.add('a' + kind);
                if (hasNumber(kind)) text.addNumber(numberOf(each));
                spellHole(each, FIRST, text, depth);
                spellHole(each, SECOND, text, depth);
                spellHole(each, BODY, text, depth);
                spellHole(each, OTHER, text, depth);
                each = inHole(each, NEXT);
            }
        }

        private void spellHole(int b, int hole, Bytes text, int depth) {
            if (!hasHole(b, hole)) return;
            text.add('(');
            spell(inHole(b, hole), text, depth + 1);
            text.add(')');
        }
    }

    /** A run of a program of its own on a stage of its own. */
    private static final class Run {
        static final int ASLEEP = 0, AWAKE = 1, LIT = 2;
        /** A goal of BACK - b is block b, come to not from above. */
        static final int BACK = -2;
        private static final int MAX_TURNS = 99, MAX_KEPT_SAYINGS = 50, SAYING_PARTS = 3;

        final Program program = new Program();
        final Stage stage = new Stage();
        boolean on = false;
        int ticks = 0;
        int sayings = 0;
        private final int[] kept = new int[MAX_KEPT_SAYINGS * SAYING_PARTS];
        private final int[] states = new int[MAX_SCRIPTS];
        private final int[] places = new int[MAX_SCRIPTS];
        private final boolean[] fromAbove = new boolean[MAX_SCRIPTS];
        private final int[] refusals = new int[MAX_SCRIPTS];
        private final int[] turns = new int[MAX_BLOCKS];
        private int sent = 0;
        private int sentAhead = 0;
        /** What the host refuses in the step that is being done, or 0. */
        private int refusal = 0;

        void begin(Stage from) {
            stage.copyFrom(from);
            on = true;
            ticks = 0;
            sayings = 0;
            sent = 0;
            sentAhead = 0;
            refusal = 0;
            Arrays.fill(states, ASLEEP);
            Arrays.fill(places, NONE);
            Arrays.fill(refusals, 0);
            Arrays.fill(turns, 0);
        }

        int stateOf(int s) {
            return s >= 0 && s < states.length ? states[s] : ASLEEP;
        }

        int placeOf(int s) {
            return s >= 0 && s < places.length ? places[s] : NONE;
        }

        int refusalOf(int s) {
            return s >= 0 && s < refusals.length ? refusals[s] : 0;
        }

        int sayingPart(int i, int what) {
            if (i < 0 || i >= sayings || i >= MAX_KEPT_SAYINGS) return NO;
            if (what < 0 || what >= SAYING_PARTS) return NO;
            return kept[i * SAYING_PARTS + what];
        }

        void oneTick() {
            ticks++;
            sentAhead = sent;
            sent = 0;
            for (int s = 0; s < program.scripts && s < MAX_SCRIPTS; s++) {
                if (states[s] == LIT || !isHit(s)) continue;
                if (states[s] == AWAKE && !program.isAgain(s)) continue;
                states[s] = AWAKE;
                places[s] = program.topOf(s);
                fromAbove[s] = true;
            }
            for (int s = 0; s < program.scripts && s < MAX_SCRIPTS; s++) {
                if (states[s] == AWAKE) step(s);
            }
        }

        private boolean isHit(int s) {
            int a = program.actorOf(s);
            if (program.topOf(s) == NONE || !stage.isActor(a)) return false;
            int c = program.numberOfCap(s);
            switch (program.capOf(s)) {
                case ON_FLAG: return ticks == 1;
                case ON_CALL: return (sentAhead >> c & 1) == 1;
                case ON_TICKS: return c > 0 && ticks % c == 0;
                case ON_MEETING: return stage.metOf(a) == 1;
                default: return false;
            }
        }

        private void step(int s) {
            if (s < 0 || s >= MAX_SCRIPTS) return;
            int b = places[s];
            int a = program.actorOf(s);
            int kind = program.kindOf(b);
            refusal = 0;
            // Only from above is FIRST of REPEAT worked out, so only then can it be refused.
            boolean isBack = kind == REPEAT && !fromAbove[s];
            int first = isBack ? 0 : worth(program.inHole(b, FIRST), a, 0);
            int second = worth(program.inHole(b, SECOND), a, 0);
            if (refusal == 0) doOrder(b, a, first, second);
            if (refusal != 0) {
                states[s] = LIT;
                refusals[s] = refusal;
                return;
            }
            int goal = isShell(kind) ? goalOfShell(b, first, fromAbove[s]) : program.goalBehind(b);
            fromAbove[s] = goal >= 0;
            places[s] = goal <= BACK ? BACK - goal : goal;
            if (goal == NONE) states[s] = ASLEEP;
        }

        private void doOrder(int b, int a, int first, int second) {
            switch (program.kindOf(b)) {
                case GO: stage.goAhead(a); break;
                case TURN: stage.turnBy(a, program.numberOf(b)); break;
                case TAKE: stage.takeThing(a); break;
                case PUT: stage.putThing(a); break;
                case SET: stage.setValue(a, first); break;
                case SAY: addSaying(a, first); break;
                case CALL: sent = sent | 1 << program.numberOf(b); break;
                case MAKE: refusal = stage.makeRow(a, first); break;
                case LAY:
                    refusal = stage.refusalOfItem(a, first);
                    stage.setItem(a, first, second);
                    break;
                default: break;
            }
        }

        private void addSaying(int a, int v) {
            if (sayings >= 0 && sayings < MAX_KEPT_SAYINGS) {
                kept[sayings * SAYING_PARTS] = a;
                kept[sayings * SAYING_PARTS + 1] = v;
                kept[sayings * SAYING_PARTS + 2] = ticks;
            }
            sayings++;
        }

        private int goalOfShell(int b, int first, boolean above) {
            if (b < 0 || b >= turns.length) return NONE;
            int kind = program.kindOf(b);
            boolean into = first != 0;
            if (kind == REPEAT) {
                if (above) turns[b] = Math.max(0, Math.min(first, MAX_TURNS));
                into = turns[b] > 0;
                if (into) turns[b]--;
            }
            int body = program.inHole(b, into ? BODY : OTHER);
            if (body != NONE) return body;
            return into && kind != IF ? BACK - b : program.goalBehind(b);
        }

        /** What a round is worth to an actor; with a refusal what is answered does not matter. */
        private int worth(int b, int a, int depth) {
            int kind = program.kindOf(b);
            if (kind == NONE || refusal != 0 || depth > MAX_BLOCKS) return 0;
            int first = worth(program.inHole(b, FIRST), a, depth + 1);
            int second = worth(program.inHole(b, SECOND), a, depth + 1);
            if (refusal != 0) return 0;
            switch (kind) {
                case NUMBER: return program.numberOf(b);
                case MINE: return stage.valueOf(a);
                case SUM: return first + second;
                case HERE: return stage.hereOf(a);
                case ITEM:
                    refusal = stage.refusalOfItem(a, first);
                    return stage.itemAt(a, first);
                case PART:
                    if (second == 0) refusal = BY_ZERO;
                    return second == 0 ? 0 : first / second;
                case WALLED: return stage.walledOf(a);
                case LESS: return first < second ? 1 : 0;
                case NOT: return first == 0 ? 1 : 0;
                case MET: return stage.metOf(a);
                default: return 0;
            }
        }
    }

    /** A wish: up to four parts, read from bytes. */
    private static final class Wish {
        private static final int MAX_PARTS = 4, MAX_DIGITS = 3;
        private static final int END = 0, ALWAYS = 1, NEVER = 2, ONCE = 3;
        private static final int BUMPS = 4, ALL_THINGS = 5, SAYINGS = 6;

        int parts = 0;
        /** Of each WHEN the sum of 1 << part over the parts that have it. */
        private final int[] partsWhen = new int[4];
        private final int[] fields = new int[MAX_PARTS];
        private final int[] actors = new int[MAX_PARTS];
        private final int[] signs = new int[MAX_PARTS];
        private final int[] numbers = new int[MAX_PARTS];
        private int place = 0;

        /** Reads a whole tape: NONE, or the place of the fault. */
        int read(Bytes tape) {
            parts = 0;
            place = 0;
            Arrays.fill(partsWhen, 0);
            for (int i = 0; i < MAX_PARTS; i++) {
                if (i > 0 && !readWord(tape, " and ")) return place;
                if (!readPart(tape, i)) return place;
                parts = i + 1;
                if (place == tape.length) return NONE;
            }
            return place;
        }

        private boolean readPart(Bytes tape, int i) {
            if (i < 0 || i >= MAX_PARTS) return false;
            return readWhen(tape, i) && readWord(tape, " ") && readField(tape, i)
                && readSign(tape, i) && readNumber(tape, i);
        }

        private boolean readWord(Bytes tape, String word) {
            for (int i = 0; i < word.length(); i++) {
                if (tape.byteAt(place) != word.charAt(i)) return false;
                place++;
            }
            return true;
        }

        private boolean readWhen(Bytes tape, int i) {
            int when;
            String word;
            switch (tape.byteAt(place)) {
                case 'e': when = END; word = "end"; break;
                case 'a': when = ALWAYS; word = "always"; break;
                case 'n': when = NEVER; word = "never"; break;
                case 'o': when = ONCE; word = "once"; break;
                default: return false;
            }
            partsWhen[when] = partsWhen[when] | 1 << i;
            return readWord(tape, word);
        }

        private boolean readField(Bytes tape, int i) {
            if (i < 0 || i >= MAX_PARTS) return false;
            int field = fieldOf(tape.byteAt(place));
            if (field == NONE) return false;
            place++;
            fields[i] = field;
            if (field > BUMPS) return true;
            int a = tape.byteAt(place) - '0';
            if (a < 0 || a >= MAX_ACTORS) return false;
            place++;
            actors[i] = a;
            return true;
        }

        /** A field by its byte; those of actors are numbered as Stage.actorPart numbers them. */
        private static int fieldOf(int b) {
            switch (b) {
                case 'x': return 0;
                case 'y': return 1;
                case 'h': return 2;
                case 'v': return 3;
                case 'b': return BUMPS;
                case 'g': return ALL_THINGS;
                case 's': return SAYINGS;
                default: return NONE;
            }
        }

        private boolean readSign(Bytes tape, int i) {
            if (i < 0 || i >= MAX_PARTS) return false;
            int sign = tape.byteAt(place);
            if (sign != '<' && sign != '=' && sign != '>') return false;
            place++;
            signs[i] = sign;
            return true;
        }

        private boolean readNumber(Bytes tape, int i) {
            if (i < 0 || i >= MAX_PARTS) return false;
            boolean isNegative = tape.byteAt(place) == '-';
            if (isNegative) place++;
            int n = 0;
            int digits = 0;
            while (digits < MAX_DIGITS && tape.byteAt(place) >= '0' && tape.byteAt(place) <= '9') {
                n = 10 * n + tape.byteAt(place) - '0';
                place++;
                digits++;
            }
            numbers[i] = isNegative ? -n : n;
            return digits > 0;
        }

        /** Runs the run's program by t ticks: the tick at which the wish is lost, or NONE. */
        int lostIn(Run run, Stage from, int t) {
            run.begin(from);
            int onceSo = 0;
            for (int i = 0; i < t; i++) {
                int so = partsSo(run);
                if (isBroken(so)) return i;
                onceSo = onceSo | so;
                run.oneTick();
            }
            int so = partsSo(run);
            if (isBroken(so) || (partsWhen[END] & ~so) != 0) return t;
            return (partsWhen[ONCE] & ~(onceSo | so)) != 0 ? t : NONE;
        }

        private boolean isBroken(int so) {
            return (partsWhen[ALWAYS] & ~so) != 0 || (partsWhen[NEVER] & so) != 0;
        }

        /** The sum of 1 << part over the parts of which the test is so now. */
        private int partsSo(Run run) {
            int so = 0;
            for (int i = 0; i < parts && i < MAX_PARTS; i++) {
                if (fields[i] <= BUMPS && !run.stage.isActor(actors[i])) continue;
                int v = fieldIn(run, fields[i], actors[i]);
                boolean isSo = signs[i] == '<' ? v < numbers[i] : signs[i] == '>' ? v > numbers[i] : v == numbers[i];
                if (isSo) so = so | 1 << i;
            }
            return so;
        }

        private static int fieldIn(Run run, int field, int a) {
            if (field == ALL_THINGS) return run.stage.allThings();
            if (field == SAYINGS) return run.sayings;
            return run.stage.actorPart(a, field);
        }
    }

    /** A row of bytes with a most length. */
    private static final class Bytes {
        int length = 0;
        private final int[] items;

        Bytes(int most) {
            items = new int[Math.max(0, most)];
        }

        void clear() {
            length = 0;
        }

        void add(int v) {
            if (length < 0 || length >= items.length) return;
            items[length] = v;
            length++;
        }

        /** Adds the digits of a number between -99 and 99. */
        void addNumber(int n) {
            if (n < 0) add('-');
            int size = Math.abs(n);
            if (size > 9) add('0' + size / 10);
            add('0' + size % 10);
        }

        int byteAt(int i) {
            return i >= 0 && i < length ? items[i] : NONE;
        }
    }

    /** Three rows of numbers of a sort, or missing ones. */
    private static final class Sheets {
        static final int MAX_ITEMS = 70, NO_SORT = -1;
        private static final int SHEETS = 3, SORTS = 3, BYTES = 0, SHORTS = 1;

        private final int[] sorts = {NO_SORT, NO_SORT, NO_SORT};
        private final int[] lengths = new int[SHEETS];
        private final int[] items = new int[SHEETS * MAX_ITEMS];

        static boolean isSheet(int sheet) {
            return sheet >= 0 && sheet < SHEETS;
        }

        static boolean isSort(int sort) {
            return sort >= 0 && sort < SORTS;
        }

        int sortOf(int sheet) {
            return sheet >= 0 && sheet < SHEETS ? sorts[sheet] : NO_SORT;
        }

        boolean isMissing(int sheet) {
            return sortOf(sheet) == NO_SORT;
        }

        /** Whether a sheet has n items from one on. */
        boolean hasItems(int sheet, int from, int n) {
            if (sheet < 0 || sheet >= SHEETS || from < 0 || n < 0) return false;
            return from <= lengths[sheet] && n <= lengths[sheet] - from;
        }

        void remake(int sheet, int sort, int n) {
            if (sheet < 0 || sheet >= SHEETS || n < 0 || n > MAX_ITEMS) return;
            sorts[sheet] = sort;
            lengths[sheet] = n;
            Arrays.fill(items, sheet * MAX_ITEMS, sheet * MAX_ITEMS + n, 0);
        }

        int itemAt(int sheet, int i) {
            return hasItems(sheet, i, 1) ? items[sheet * MAX_ITEMS + i] : 0;
        }

        void setItem(int sheet, int i, int v) {
            if (!hasItems(sheet, i, 1)) return;
            int sort = sortOf(sheet);
            items[sheet * MAX_ITEMS + i] = sort == BYTES ? (byte) v : sort == SHORTS ? (short) v : v;
        }

        void move(int sheet, int i, int other, int j, int n) {
            if (!hasItems(sheet, i, n) || !hasItems(other, j, n)) return;
            System.arraycopy(items, sheet * MAX_ITEMS + i, items, other * MAX_ITEMS + j, n);
        }
    }

    /** The bodies of any block; m is its number, n as it is told. */
    private abstract static class Family {
        private static final int MAX_TRACE = 30;

        final int m;
        final int n;
        int ran = 0;
        private final int[] trace = new int[MAX_TRACE];

        Family(int m, int n) {
            this.m = m;
            this.n = n;
        }

        final void begins(int body) {
            if (ran >= 0 && ran < MAX_TRACE) trace[ran] = body;
            ran++;
        }

        final int bodyAt(int i) {
            return i >= 0 && i < ran && i < MAX_TRACE ? trace[i] : NONE;
        }

        int runs(int x) {
            begins(10);
            return x + m;
        }

        int costs(int x) {
            begins(11);
            return runs(x) * 2;
        }

        int tells(int x) {
            begins(12);
            return costs(x) ^ runs(x + n);
        }
    }

    private static class Orders extends Family {
        Orders(int m, int n) {
            super(m, n);
        }

        int runs(int x) {
            begins(20);
            return super.runs(x) - n;
        }
    }

    private static final class Shells extends Orders {
        Shells(int m, int n) {
            super(m, n);
        }

        int costs(int x) {
            begins(30);
            return super.costs(x) + 3;
        }

        int tells(int x) {
            begins(31);
            return super.tells(x + 1);
        }
    }

    private static class Rounds extends Family {
        Rounds(int m, int n) {
            super(m, n);
        }

        int costs(int x) {
            begins(40);
            return super.costs(x) * 3;
        }
    }

    private static final class Sharps extends Rounds {
        Sharps(int m, int n) {
            super(m, n);
        }

        int runs(int x) {
            begins(50);
            return super.runs(x) ^ 7;
        }

        int tells(int x) {
            begins(51);
            return costs(x) - super.tells(x);
        }
    }
}
