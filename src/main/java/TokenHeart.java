import java.util.Arrays;

/**
 * The heart of a small machine: boxes with tables of tokens that alone let a thing be done, and
 * runners that step through programs in them. DOC.md (its numbered promises) says what it does.
 */
public final class TokenHeart {
    public static final int NONE = -1;
    public static final int MISSING = -2;
    public static final int BEYOND = -3;
    public static final int BELOW = -4;
    public static final int KIND = -5;
    public static final int COPY = -6;
    public static final int NO = -7;
    public static final int FULL = -8;

    // How many there are at most.
    private static final int THINGS = 40;
    private static final int TOKENS = 120;
    private static final int SLOTS = 10;
    private static final int RUNNERS = 8;
    private static final int STEPS = 40;
    private static final int PROGRAM = 4 * STEPS;
    private static final int WISHES = 20;
    private static final int LINE_ROW = 30;
    private static final int TIME_ROW = 16;
    private static final int SHEETS = 4;
    private static final int SHEET_SIZE = 160;
    private static final int ROW_SIZE = 60;
    private static final int TAPE_SIZE = 160;
    private static final int LAST_NOW = 9999;
    private static final int MOST_TICKS = 200;
    private static final int MOST_TRIAL_TICKS = 60;
    private static final int MOST_TRIALS = 16;
    private static final int PIECE = 3;

    // Kinds of things, and the room that each takes.
    private static final int PAGE = 0;
    private static final int BOX = 1;
    private static final int GATE = 2;
    private static final int PROMISE = 3;
    private static final int LINE = 4;
    private static final int CLOCK = 5;
    private static final int[] PRICE = {10, 40, 5, 3, 2, 1};

    // Kinds of tokens, and the rights that they have.
    private static final int PLAIN = 0;
    private static final int LENT = 1;
    private static final int NARROW = 2;
    private static final int ONCE = 3;
    private static final int READ = 1;
    private static final int WRITE = 2;
    private static final int LEND = 4;
    private static final int TAKE = 8;
    private static final int MAKE = 16;
    private static final int THING_RIGHTS = READ | WRITE | LEND | TAKE;
    private static final int ALL_RIGHTS = THING_RIGHTS | MAKE;
    private static final int ALL_BITS = -1;
    private static final int SEALED_BY_GONE = THINGS;
    private static final int FIRST_ROOM = 960;
    private static final int LAST_TILL = 998;

    // States of a runner.
    private static final int READY = 0;
    private static final int WAITS = 1;
    private static final int CALLS = 2;
    private static final int STOPPED = 3;
    private static final int GONE = 4;

    // What a step does; the last one is an act by hand alone.
    private static final int STEP_STOP = 0;
    private static final int STEP_SET = 1;
    private static final int STEP_ADD = 2;
    private static final int STEP_JUMP = 3;
    private static final int STEP_LOAD = 4;
    private static final int STEP_STORE = 5;
    private static final int STEP_LEND = 6;
    private static final int STEP_NARROW = 7;
    private static final int STEP_ONCE = 8;
    private static final int STEP_SPLIT = 9;
    private static final int STEP_MAKE = 10;
    private static final int STEP_SEAL = 11;
    private static final int STEP_OPEN = 12;
    private static final int STEP_TAKE = 13;
    private static final int STEP_DROP = 14;
    private static final int STEP_CALL = 15;
    private static final int STEP_WAIT = 16;
    private static final int STEP_ANSWER = 17;
    private static final int STEP_PUT = 18;
    private static final int STEP_GET = 19;
    private static final int ACT_TILL = 20;

    private static final int RULE_FAIR = 0;
    private static final int RULE_ROW = 1;
    private static final int LEFT_ALONE = -1;
    private static final int KEEPER_WORD = 100;

    private final State live = new State();
    private final State kept = new State();
    private final State spare = new State();
    private final Parting parting = new Parting(live);
    private final Acts acts = new Acts(live, parting);
    private final Turns turns = new Turns(live, parting, acts);
    private final Trials trials = new Trials(live, spare, turns);
    private final Reach reach = new Reach(live);
    private final Script script = new Script(live);
    private final int[][] sheets = new int[SHEETS][SHEET_SIZE];
    private final int[] sheetSize = new int[SHEETS];
    private final int[] record = new int[ROW_SIZE];
    private final int[] tape = new int[TAPE_SIZE];
    private final int[] refused = new int[-FULL + 1];
    private int recordSize = NONE;
    private int tapeSize = 0;
    private boolean isKept = false;

    public TokenHeart() {
        Arrays.fill(sheetSize, NONE);
        live.begin();
    }

    // ---- acts by hand

    public int act(int box, int what, int a, int bc) {
        if (!live.isBox(box)) {
            return refuse(BEYOND);
        }
        if (!Acts.isAct(what) && what != ACT_TILL) {
            return refuse(KIND);
        }
        if (bc < 0 || !acts.perform(box, what, a, bc / 1000 - 1, bc % 1000 - 1)) {
            return refuse(NO);
        }
        parting.sweep();
        return 1;
    }

    public int load(int box, int slot) {
        if (live.placeOf(box, slot) == NONE) {
            return tellZero(BEYOND);
        }
        if (!acts.readOut(box, slot)) {
            return tellZero(NO);
        }
        parting.sweep();
        return acts.loaded;
    }

    public int store(int box, int slot, int v) {
        if (live.placeOf(box, slot) == NONE) {
            return refuse(BEYOND);
        }
        if (!acts.writeIn(box, slot, v)) {
            return refuse(NO);
        }
        parting.sweep();
        return 1;
    }

    // ---- looking

    public int thing(int thing, int what) {
        if (!live.things.isThere(thing)) {
            return refuse(BEYOND);
        }
        Things things = live.things;
        switch (what) {
            case 0: return things.kind[thing];
            case 1: return things.madeOf[thing];
            case 2: return things.number[thing];
            case 3: return live.tokens.howManyOf(thing);
            case 4: return things.outCount[thing];
            case 5: return things.inSize[thing] - things.inNext[thing];
            default: return refuse(NO);
        }
    }

    public int out(int thing, int i) {
        if (!live.things.isThere(thing)) {
            return tellZero(BEYOND);
        }
        if (live.things.kind[thing] != LINE) {
            return tellZero(KIND);
        }
        if (i < 0 || i >= Math.min(LINE_ROW, live.things.outCount[thing])) {
            return tellZero(BEYOND);
        }
        return live.things.outRow[thing * LINE_ROW + i];
    }

    public int token(int token, int what) {
        Tokens tokens = live.tokens;
        if (!tokens.isThere(token)) {
            return refuse(BEYOND);
        }
        switch (what) {
            case 0: return tokens.kind[token];
            case 1: return tokens.thingOf[token];
            case 2: return tokens.rights[token];
            case 3: return tokens.room[token];
            case 4: return tokens.lender[token];
            case 5: return tokens.box[token];
            case 6: return tokens.slotOf[token];
            case 7: return tokens.seal[token];
            case 8: return tokens.last[token];
            case 9: return tokens.doomed[token];
            default: return refuse(NO);
        }
    }

    public int slot(int box, int slot) {
        if (live.placeOf(box, slot) == NONE) {
            return refuse(BEYOND);
        }
        return live.tokenAt(box, slot);
    }

    public int below(int token) {
        if (!live.tokens.isThere(token)) {
            return refuse(BEYOND);
        }
        return live.tokens.howManyBelow(token);
    }

    public int isBelow(int token, int other) {
        if (!live.tokens.isThere(token) || !live.tokens.isThere(other)) {
            return refuse(BEYOND);
        }
        return live.tokens.comesOf(token, other) ? 1 : 0;
    }

    // ---- runners, time

    public int runner(int box, int sheet) {
        if (!live.isBox(box) || !isSheet(sheet)) {
            return refuse(BEYOND);
        }
        if (sheetSize[sheet] == NONE) {
            return refuse(MISSING);
        }
        if (live.runners.size >= RUNNERS) {
            return refuse(FULL);
        }
        return live.runners.add(box, sheets[sheet], sheetSize[sheet] / 4);
    }

    public int keeper(int runner, int slot) {
        if (!live.runners.isThere(runner)) {
            return refuse(BEYOND);
        }
        if (slot == NONE) {
            live.runners.keeper[runner] = NONE;
            return 1;
        }
        // The number of a box that is gone may be another box's by now.
        if (live.runners.state[runner] == GONE || !acts.keep(runner, slot)) {
            return refuse(NO);
        }
        parting.sweep();
        return 1;
    }

    public int look(int runner, int what) {
        Runners runners = live.runners;
        if (!runners.isThere(runner)) {
            return refuse(BEYOND);
        }
        switch (what) {
            case 0: return runners.box[runner];
            case 1: return runners.state[runner];
            case 2: return runners.place[runner];
            case 3: return runners.acc[runner];
            case 4: return runners.keeper[runner];
            case 5: return runners.gate[runner];
            case 6: return runners.server[runner];
            case 7: return runners.serves[runner];
            case 8: return runners.steps[runner];
            default: return refuse(NO);
        }
    }

    public int step(int runner, int k, int i) {
        Runners runners = live.runners;
        if (!runners.isThere(runner) || k < 0 || k >= runners.steps[runner] || i < 0 || i > 3) {
            return tellZero(BEYOND);
        }
        return runners.program[runner * PROGRAM + 4 * k + i];
    }

    public int tell(int runner, int v) {
        if (!live.runners.isThere(runner)) {
            return refuse(BEYOND);
        }
        if (live.runners.state[runner] != READY) {
            return refuse(NO);
        }
        live.runners.acc[runner] = v;
        return 1;
    }

    public int resume(int runner, int place) {
        if (!live.runners.isThere(runner)) {
            return refuse(BEYOND);
        }
        if (place < 0 || place > STEPS || live.runners.state[runner] != STOPPED) {
            return refuse(NO);
        }
        live.runners.state[runner] = READY;
        live.runners.place[runner] = place;
        return 1;
    }

    public int rule(int rule) {
        if (!isRule(rule)) {
            return refuse(NO);
        }
        int before = live.rule;
        live.rule = rule;
        return before;
    }

    public int time(int sheet) {
        if (!isSheet(sheet)) {
            return refuse(BEYOND);
        }
        if (sheetSize[sheet] == NONE) {
            return refuse(MISSING);
        }
        live.timeSize = Math.min(TIME_ROW, sheetSize[sheet]);
        System.arraycopy(sheets[sheet], 0, live.timeRow, 0, live.timeSize);
        return live.timeSize;
    }

    public int in(int thing, int sheet) {
        Things things = live.things;
        if (!things.isThere(thing) || !isSheet(sheet)) {
            return refuse(BEYOND);
        }
        if (sheetSize[sheet] == NONE) {
            return refuse(MISSING);
        }
        if (things.kind[thing] != LINE) {
            return refuse(KIND);
        }
        things.inSize[thing] = Math.min(LINE_ROW, sheetSize[sheet]);
        things.inNext[thing] = 0;
        System.arraycopy(sheets[sheet], 0, things.inRow, thing * LINE_ROW, things.inSize[thing]);
        return things.inSize[thing];
    }

    public int run(int n) {
        if (n < 0) {
            return refuse(BELOW);
        }
        if (n == 0 || n > MOST_TICKS) {
            return refuse(NO);
        }
        if (live.now + n > LAST_NOW) {
            return refuse(FULL);
        }
        int done = 0;
        for (int i = 0; i < n; i++) {
            if (turns.tick() != NONE) {
                done++;
            }
        }
        return done;
    }

    // ---- leaks, records

    public int leak(int runners, int rule, int told) {
        int from = runners / 10;
        int to = runners % 10;
        if (runners < 0 || !live.runners.isThere(from) || !live.runners.isThere(to)) {
            return refuse(BEYOND);
        }
        int k = told / 100;
        int n = told % 100;
        if (!isRule(rule) || k < 2 || k > MOST_TRIALS || n < 1 || n > MOST_TRIAL_TICKS) {
            return refuse(NO);
        }
        if (from == to || live.runners.state[from] != READY) {
            return refuse(NO);
        }
        if (live.now + n > LAST_NOW) {
            return refuse(FULL);
        }
        return trials.groups(from, to, rule, k, n);
    }

    public int late(int runner) {
        if (!live.runners.isThere(runner)) {
            return refuse(BEYOND);
        }
        return trials.ticksTillReady(runner);
    }

    public int judge() {
        if (recordSize == NONE) {
            return refuse(MISSING);
        }
        if (recordSize == 0) {
            return refuse(KIND);
        }
        if (live.now + recordSize > LAST_NOW) {
            return refuse(FULL);
        }
        return trials.firstUnlike(record, recordSize);
    }

    // ---- wires and wishes

    public int could(int box, int thing) {
        if (!live.isBox(box) || !live.things.isThere(thing)) {
            return refuse(BEYOND);
        }
        return reach.everHeld(box, thing);
    }

    public int when(int box, int thing, int rights) {
        if (!live.isBox(box) || !live.things.isThere(thing)) {
            return refuse(BEYOND);
        }
        if (rights < 1 || rights > THING_RIGHTS) {
            return refuse(NO);
        }
        return reach.firstHeld(box, thing, rights);
    }

    public int show(int wish) {
        if (wish < 0 || wish >= live.wishes.size) {
            return refuse(BEYOND);
        }
        return live.wishes.over[wish] != 0 ? NONE : reach.firstBroken(wish);
    }

    public int feed(int bytes, int n) {
        if (n < 0) {
            return refuse(BELOW);
        }
        if (n > 4) {
            return refuse(NO);
        }
        if (tapeSize + n > TAPE_SIZE) {
            return refuse(FULL);
        }
        for (int i = n - 1; i >= 0; i--) {
            tape[tapeSize] = (bytes >>> (8 * i)) & 255;
            tapeSize++;
        }
        return tapeSize;
    }

    public int wipe() {
        int before = tapeSize;
        tapeSize = 0;
        return before;
    }

    public int text() {
        int fault = script.parse(tape, tapeSize);
        if (fault != NONE) {
            return -10 - fault;
        }
        spare.takeFrom(live);
        if (!script.perform()) {
            live.takeFrom(spare);
            return refuse(NO);
        }
        tapeSize = 0;
        return script.size;
    }

    public int count(int what) {
        switch (what) {
            case 0: return live.now;
            case 1: return live.things.howMany();
            case 2: return live.tokens.howMany();
            case 3: return live.tokens.howManyDoomed();
            case 4: return live.pool;
            case 5: return live.runners.size;
            case 6: return live.wishes.size;
            case 7: return tapeSize;
            case 8: return live.rule;
            case 9: return live.last;
            case 10: return live.faults;
            case 11: return live.timeSize;
            default: return refuse(NO);
        }
    }

    public int image() {
        kept.takeFrom(live);
        isKept = true;
        return live.now;
    }

    public int back() {
        if (!isKept) {
            return refuse(MISSING);
        }
        live.takeFrom(kept);
        return live.now;
    }

    // ---- sheets, rows

    public int sheet(int sheet, int n) {
        if (!isSheet(sheet)) {
            return refuse(BEYOND);
        }
        if (n < NONE) {
            return refuse(BELOW);
        }
        if (n > SHEET_SIZE) {
            return refuse(NO);
        }
        sheetSize[sheet] = n;
        Arrays.fill(sheets[sheet], 0);
        return n;
    }

    public int set(int sheet, int i, int v) {
        if (!isSheet(sheet)) {
            return tellZero(BEYOND);
        }
        if (sheetSize[sheet] == NONE) {
            return tellZero(MISSING);
        }
        if (i < 0 || i >= sheetSize[sheet]) {
            return tellZero(BEYOND);
        }
        int before = sheets[sheet][i];
        sheets[sheet][i] = v;
        return before;
    }

    public int lay(int n) {
        if (n < 0) {
            return refuse(BELOW);
        }
        if (n > ROW_SIZE) {
            return refuse(NO);
        }
        recordSize = n;
        Arrays.fill(record, 0);
        return n;
    }

    public int write(int i, int v) {
        if (recordSize == NONE) {
            return tellZero(MISSING);
        }
        if (i < 0 || i >= recordSize) {
            return tellZero(BEYOND);
        }
        int before = record[i];
        record[i] = v;
        return before;
    }

    public int tear() {
        int before = recordSize == NONE ? 0 : 1;
        recordSize = NONE;
        return before;
    }

    public int row(int i) {
        if (recordSize == NONE) {
            return tellZero(MISSING);
        }
        if (i < 0 || i >= recordSize) {
            return tellZero(BEYOND);
        }
        return record[i];
    }

    public int copy(int sheet, int i, int j, int n) {
        if (!isSheet(sheet)) {
            return refuse(BEYOND);
        }
        if (sheetSize[sheet] == NONE || recordSize == NONE) {
            return refuse(MISSING);
        }
        if (n < 0) {
            return refuse(BELOW);
        }
        // As differences: i + n and j + n could wrap.
        if (i < 0 || j < 0 || i > sheetSize[sheet] - n || j > recordSize - n) {
            return refuse(COPY);
        }
        System.arraycopy(sheets[sheet], i, record, j, n);
        return n;
    }

    public int status(int by) {
        if (by > MISSING || by < FULL) {
            return refuse(NO);
        }
        return refused[-by];
    }

    private int refuse(int why) {
        refused[-why]++;
        return why;
    }

    private int tellZero(int why) {
        refused[-why]++;
        return 0;
    }

    private static boolean isSheet(int sheet) {
        return sheet >= 0 && sheet < SHEETS;
    }

    private static boolean isRule(int rule) {
        return rule == RULE_FAIR || rule == RULE_ROW;
    }

    /** Rows of what each token is; one whose kind is NONE is free. */
    private static final class Tokens {
        final int[] kind = new int[TOKENS];
        final int[] thingOf = new int[TOKENS];
        final int[] rights = new int[TOKENS];
        final int[] room = new int[TOKENS];
        final int[] lender = new int[TOKENS];
        final int[] box = new int[TOKENS];
        final int[] slotOf = new int[TOKENS];
        final int[] seal = new int[TOKENS];
        final int[] last = new int[TOKENS];
        final int[] doomed = new int[TOKENS];

        Tokens() {
            Arrays.fill(kind, NONE);
        }

        void takeFrom(Tokens other) {
            System.arraycopy(other.kind, 0, kind, 0, TOKENS);
            System.arraycopy(other.thingOf, 0, thingOf, 0, TOKENS);
            System.arraycopy(other.rights, 0, rights, 0, TOKENS);
            System.arraycopy(other.room, 0, room, 0, TOKENS);
            System.arraycopy(other.lender, 0, lender, 0, TOKENS);
            System.arraycopy(other.box, 0, box, 0, TOKENS);
            System.arraycopy(other.slotOf, 0, slotOf, 0, TOKENS);
            System.arraycopy(other.seal, 0, seal, 0, TOKENS);
            System.arraycopy(other.last, 0, last, 0, TOKENS);
            System.arraycopy(other.doomed, 0, doomed, 0, TOKENS);
        }

        boolean isThere(int token) {
            return token >= 0 && token < TOKENS && kind[token] != NONE;
        }

        int firstFree() {
            for (int t = 0; t < TOKENS; t++) {
                if (kind[t] == NONE) {
                    return t;
                }
            }
            return NONE;
        }

        /** Whether it was lent of another one, or of one that was, and so on. */
        boolean comesOf(int token, int other) {
            int up = lender[token];
            for (int i = 0; i < TOKENS && up != NONE; i++) {
                if (up == other) {
                    return true;
                }
                up = lender[up];
            }
            return false;
        }

        int howMany() {
            int many = 0;
            for (int t = 0; t < TOKENS; t++) {
                many += kind[t] != NONE ? 1 : 0;
            }
            return many;
        }

        int howManyDoomed() {
            int many = 0;
            for (int t = 0; t < TOKENS; t++) {
                many += kind[t] != NONE ? doomed[t] : 0;
            }
            return many;
        }

        int howManyOf(int thing) {
            int many = 0;
            for (int t = 0; t < TOKENS; t++) {
                many += kind[t] != NONE && thingOf[t] == thing ? 1 : 0;
            }
            return many;
        }

        int howManyBelow(int token) {
            int many = 0;
            for (int t = 0; t < TOKENS; t++) {
                many += kind[t] != NONE && comesOf(t, token) ? 1 : 0;
            }
            return many;
        }

        void doomBelow(int token) {
            for (int t = 0; t < TOKENS; t++) {
                if (kind[t] != NONE && comesOf(t, token)) {
                    doomed[t] = 1;
                }
            }
        }

        void unsealAll(int thing) {
            for (int t = 0; t < TOKENS; t++) {
                if (kind[t] != NONE && seal[t] == thing) {
                    seal[t] = SEALED_BY_GONE;
                }
            }
        }
    }

    /** Rows of what each thing is; one whose kind is NONE is free. */
    private static final class Things {
        final int[] kind = new int[THINGS];
        final int[] madeOf = new int[THINGS];
        final int[] number = new int[THINGS];
        final int[] outCount = new int[THINGS];
        final int[] inSize = new int[THINGS];
        final int[] inNext = new int[THINGS];
        final int[] outRow = new int[THINGS * LINE_ROW];
        final int[] inRow = new int[THINGS * LINE_ROW];

        Things() {
            Arrays.fill(kind, NONE);
        }

        void takeFrom(Things other) {
            System.arraycopy(other.kind, 0, kind, 0, THINGS);
            System.arraycopy(other.madeOf, 0, madeOf, 0, THINGS);
            System.arraycopy(other.number, 0, number, 0, THINGS);
            System.arraycopy(other.outCount, 0, outCount, 0, THINGS);
            System.arraycopy(other.inSize, 0, inSize, 0, THINGS);
            System.arraycopy(other.inNext, 0, inNext, 0, THINGS);
            System.arraycopy(other.outRow, 0, outRow, 0, THINGS * LINE_ROW);
            System.arraycopy(other.inRow, 0, inRow, 0, THINGS * LINE_ROW);
        }

        boolean isThere(int thing) {
            return thing >= 0 && thing < THINGS && kind[thing] != NONE;
        }

        boolean isOf(int thing, int wanted) {
            return thing >= 0 && thing < THINGS && kind[thing] == wanted;
        }

        boolean isMeetingPlace(int thing) {
            return isOf(thing, GATE) || isOf(thing, PROMISE);
        }

        int firstFree() {
            for (int x = 0; x < THINGS; x++) {
                if (kind[x] == NONE) {
                    return x;
                }
            }
            return NONE;
        }

        int howMany() {
            int many = 0;
            for (int x = 0; x < THINGS; x++) {
                many += kind[x] != NONE ? 1 : 0;
            }
            return many;
        }

        void begin(int thing, int ofKind, int ofToken) {
            kind[thing] = ofKind;
            madeOf[thing] = ofToken;
            number[thing] = 0;
            outCount[thing] = 0;
            inSize[thing] = 0;
            inNext[thing] = 0;
        }

        void forgetToken(int token) {
            for (int x = 0; x < THINGS; x++) {
                if (madeOf[x] == token) {
                    madeOf[x] = NONE;
                }
            }
        }

        int nextIn(int thing) {
            if (inNext[thing] >= inSize[thing]) {
                return 0;
            }
            int at = thing * LINE_ROW + inNext[thing];
            inNext[thing]++;
            return inRow[at];
        }

        void putOut(int thing, int v) {
            if (outCount[thing] < LINE_ROW) {
                outRow[thing * LINE_ROW + outCount[thing]] = v;
            }
            outCount[thing]++;
        }
    }

    /** Rows of what each runner is; they are never fewer again. */
    private static final class Runners {
        final int[] box = new int[RUNNERS];
        final int[] state = new int[RUNNERS];
        final int[] place = new int[RUNNERS];
        final int[] acc = new int[RUNNERS];
        final int[] keeper = new int[RUNNERS];
        final int[] gate = new int[RUNNERS];
        final int[] server = new int[RUNNERS];
        final int[] serves = new int[RUNNERS];
        final int[] steps = new int[RUNNERS];
        final int[] slotB = new int[RUNNERS];
        final int[] slotC = new int[RUNNERS];
        final int[] since = new int[RUNNERS];
        final int[] program = new int[RUNNERS * PROGRAM];
        int size = 0;

        void takeFrom(Runners other) {
            System.arraycopy(other.box, 0, box, 0, RUNNERS);
            System.arraycopy(other.state, 0, state, 0, RUNNERS);
            System.arraycopy(other.place, 0, place, 0, RUNNERS);
            System.arraycopy(other.acc, 0, acc, 0, RUNNERS);
            System.arraycopy(other.keeper, 0, keeper, 0, RUNNERS);
            System.arraycopy(other.gate, 0, gate, 0, RUNNERS);
            System.arraycopy(other.server, 0, server, 0, RUNNERS);
            System.arraycopy(other.serves, 0, serves, 0, RUNNERS);
            System.arraycopy(other.steps, 0, steps, 0, RUNNERS);
            System.arraycopy(other.slotB, 0, slotB, 0, RUNNERS);
            System.arraycopy(other.slotC, 0, slotC, 0, RUNNERS);
            System.arraycopy(other.since, 0, since, 0, RUNNERS);
            System.arraycopy(other.program, 0, program, 0, RUNNERS * PROGRAM);
            size = other.size;
        }

        boolean isThere(int r) {
            return r >= 0 && r < size;
        }

        boolean isReady(int r) {
            return isThere(r) && state[r] == READY;
        }

        /** A new one where there is still a number free. */
        int add(int inBox, int[] numbers, int stepsTold) {
            int r = size;
            size++;
            box[r] = inBox;
            state[r] = READY;
            place[r] = 0;
            acc[r] = 0;
            keeper[r] = NONE;
            gate[r] = NONE;
            server[r] = NONE;
            serves[r] = NONE;
            steps[r] = Math.min(STEPS, stepsTold);
            System.arraycopy(numbers, 0, program, r * PROGRAM, 4 * steps[r]);
            return r;
        }

        void goesTo(int r, int newState, int atGate, int b, int c, int now) {
            state[r] = newState;
            gate[r] = atGate;
            slotB[r] = b;
            slotC[r] = c;
            since[r] = now;
        }

        /** Behind a CALL or WAIT that is over: the step counts only now. */
        void wake(int r, int newAcc) {
            state[r] = READY;
            place[r]++;
            acc[r] = newAcc;
            gate[r] = NONE;
            server[r] = NONE;
        }

        /** It is STOPPED or GONE: nobody waits for it or works for it any more. */
        void end(int r, int newState) {
            if (serves[r] != NONE) {
                wake(serves[r], LEFT_ALONE);
                serves[r] = NONE;
            }
            if (server[r] != NONE) {
                serves[server[r]] = NONE;
                server[r] = NONE;
            }
            gate[r] = NONE;
            state[r] = newState;
        }

        void endAllIn(int goneBox) {
            for (int r = 0; r < size; r++) {
                if (box[r] == goneBox && state[r] != GONE) {
                    end(r, GONE);
                }
            }
        }

        void stopAllAt(int goneGate) {
            for (int r = 0; r < size; r++) {
                if (gate[r] == goneGate) {
                    end(r, STOPPED);
                }
                if (keeper[r] == goneGate) {
                    keeper[r] = NONE;
                }
            }
        }

        int leastWaiting(int atGate) {
            for (int r = 0; r < size; r++) {
                if (state[r] == WAITS && gate[r] == atGate) {
                    return r;
                }
            }
            return NONE;
        }

        /** The one not yet served that has called longest. */
        int firstCalling(int atGate) {
            int first = NONE;
            for (int r = 0; r < size; r++) {
                if (state[r] == CALLS && gate[r] == atGate && server[r] == NONE) {
                    if (first == NONE || since[r] < since[first]) {
                        first = r;
                    }
                }
            }
            return first;
        }
    }

    /** Rows of what each wish is: a NEVER has a thing and rights, an APART two boxes. */
    private static final class Wishes {
        final int[] kind = new int[WISHES];
        final int[] x = new int[WISHES];
        final int[] y = new int[WISHES];
        final int[] rights = new int[WISHES];
        final int[] over = new int[WISHES];
        int size = 0;

        void takeFrom(Wishes other) {
            System.arraycopy(other.kind, 0, kind, 0, WISHES);
            System.arraycopy(other.x, 0, x, 0, WISHES);
            System.arraycopy(other.y, 0, y, 0, WISHES);
            System.arraycopy(other.rights, 0, rights, 0, WISHES);
            System.arraycopy(other.over, 0, over, 0, WISHES);
            size = other.size;
        }

        boolean add(int ofKind, int ofX, int ofY, int ofRights) {
            if (size >= WISHES) {
                return false;
            }
            kind[size] = ofKind;
            x[size] = ofX;
            y[size] = ofY;
            rights[size] = ofRights;
            over[size] = 0;
            size++;
            return true;
        }

        void endAllOf(int goneThing) {
            for (int w = 0; w < size; w++) {
                if (x[w] == goneThing || y[w] == goneThing) {
                    over[w] = 1;
                }
            }
        }
    }

    /** All that an image keeps. */
    private static final class State {
        final Tokens tokens = new Tokens();
        final Things things = new Things();
        final Runners runners = new Runners();
        final Wishes wishes = new Wishes();
        final int[] table = new int[THINGS * SLOTS];
        final int[] timeRow = new int[TIME_ROW];
        int timeSize = 0;
        int now = 0;
        int pool = 0;
        int rule = RULE_FAIR;
        int last = NONE;
        int faults = 0;

        State() {
            Arrays.fill(table, NONE);
        }

        void takeFrom(State other) {
            tokens.takeFrom(other.tokens);
            things.takeFrom(other.things);
            runners.takeFrom(other.runners);
            wishes.takeFrom(other.wishes);
            System.arraycopy(other.table, 0, table, 0, THINGS * SLOTS);
            System.arraycopy(other.timeRow, 0, timeRow, 0, TIME_ROW);
            timeSize = other.timeSize;
            now = other.now;
            pool = other.pool;
            rule = other.rule;
            last = other.last;
            faults = other.faults;
        }

        /** The first box, with all the room there is. */
        void begin() {
            things.begin(0, BOX, NONE);
            int all = putToken(PLAIN, NONE, ALL_RIGHTS, NONE, 0, 0, NONE);
            if (all != NONE) {
                tokens.room[all] = FIRST_ROOM;
            }
        }

        boolean isBox(int box) {
            return things.isOf(box, BOX);
        }

        /** Where a slot of a box stands in the table; NONE if there is no such slot. */
        int placeOf(int box, int slot) {
            if (box < 0 || box >= THINGS || things.kind[box] != BOX || slot < 0 || slot >= SLOTS) {
                return NONE;
            }
            return box * SLOTS + slot;
        }

        /** NONE also for a slot that there is none of: nothing is there to be used. */
        int tokenAt(int box, int slot) {
            int at = placeOf(box, slot);
            return at == NONE ? NONE : table[at];
        }

        boolean fits(int token, int rights) {
            return token != NONE
                && tokens.seal[token] == NONE
                && tokens.doomed[token] == 0
                && (tokens.last[token] == NONE || now <= tokens.last[token])
                && (tokens.rights[token] & rights) == rights;
        }

        /** Whether it may be lent: room is parted, never lent. */
        boolean mayLend(int token) {
            return fits(token, LEND) && tokens.thingOf[token] != NONE;
        }

        /** Whether it is of a box, and fits. */
        boolean opensBox(int token, int rights) {
            return fits(token, rights) && isBox(tokens.thingOf[token]);
        }

        /** Whether it is of a gate or promise, and fits. */
        boolean opensGate(int token, int rights) {
            return fits(token, rights) && things.isMeetingPlace(tokens.thingOf[token]);
        }

        /** A new token in a slot: its number; NONE if the slot isn't free, or no number is. */
        int putToken(int kind, int thing, int rights, int lender, int box, int slot, int last) {
            int t = tokens.firstFree();
            int at = placeOf(box, slot);
            if (t == NONE || at == NONE || table[at] != NONE) {
                return NONE;
            }
            tokens.kind[t] = kind;
            tokens.thingOf[t] = thing;
            tokens.rights[t] = rights;
            tokens.room[t] = 0;
            tokens.lender[t] = lender;
            tokens.box[t] = box;
            tokens.slotOf[t] = slot;
            tokens.seal[t] = NONE;
            tokens.last[t] = last;
            tokens.doomed[t] = 0;
            table[at] = t;
            return t;
        }

        /** Whether a token of the same thing could be put into a slot, below a token. */
        boolean lend(int from, int kind, int mask, int box, int slot) {
            if (!mayLend(from)) {
                return false;
            }
            int rights = tokens.rights[from] & mask;
            return putToken(kind, tokens.thingOf[from], rights, from, box, slot, tokens.last[from]) != NONE;
        }
    }

    /** How tokens go, and what goes with them. */
    private static final class Parting {
        private final State state;
        private final int[] marked = new int[TOKENS];
        private boolean isSome = false;

        Parting(State state) {
            this.state = state;
        }

        void mark(int token) {
            marked[token] = 1;
            isSome = true;
        }

        /** One for once goes behind its use, which is done: its slot and number aren't free before. */
        boolean useUp(int token) {
            if (state.tokens.kind[token] == ONCE) {
                mark(token);
            }
            return true;
        }

        void markAllOf(int thing) {
            for (int t = 0; t < TOKENS; t++) {
                if (state.tokens.kind[t] != NONE && state.tokens.thingOf[t] == thing) {
                    mark(t);
                }
            }
        }

        void markDoomed(int most) {
            int many = 0;
            for (int t = 0; t < TOKENS && many < most; t++) {
                if (state.tokens.kind[t] != NONE && state.tokens.doomed[t] != 0) {
                    mark(t);
                    many++;
                }
            }
        }

        /** All that is marked goes, with all that this takes along: each pass but the last loses a box. */
        void sweep() {
            for (int pass = 0; pass <= THINGS && isSome; pass++) {
                markAllBelow();
                giveBackRoom();
                loseTokens();
                for (int x = 1; x < THINGS; x++) {
                    if (state.things.kind[x] != NONE && state.tokens.howManyOf(x) == 0) {
                        loseThing(x);
                    }
                }
            }
        }

        private void markAllBelow() {
            for (int t = 0; t < TOKENS; t++) {
                if (state.tokens.kind[t] != NONE && isBelowMarked(t)) {
                    marked[t] = 1;
                }
            }
        }

        private boolean isBelowMarked(int token) {
            int up = state.tokens.lender[token];
            for (int i = 0; i < TOKENS && up != NONE; i++) {
                if (marked[up] != 0) {
                    return true;
                }
                up = state.tokens.lender[up];
            }
            return false;
        }

        /** The nearest one up the row of lenders that isn't marked. */
        private int nearestStaying(int token) {
            int up = state.tokens.lender[token];
            for (int i = 0; i < TOKENS && up != NONE && marked[up] != 0; i++) {
                up = state.tokens.lender[up];
            }
            return up;
        }

        private void giveBackRoom() {
            for (int t = 0; t < TOKENS; t++) {
                if (marked[t] != 0) {
                    giveRoom(nearestStaying(t), state.tokens.room[t]);
                }
            }
        }

        private void giveRoom(int token, int room) {
            if (token == NONE) {
                state.pool += room;
            } else {
                state.tokens.room[token] += room;
            }
        }

        private void loseTokens() {
            for (int t = 0; t < TOKENS; t++) {
                if (marked[t] != 0) {
                    state.table[state.tokens.box[t] * SLOTS + state.tokens.slotOf[t]] = NONE;
                    state.tokens.kind[t] = NONE;
                    state.things.forgetToken(t);
                    marked[t] = 0;
                }
            }
            isSome = false;
        }

        private void loseThing(int x) {
            int kind = state.things.kind[x];
            giveRoom(state.things.madeOf[x], PRICE[kind]);
            state.things.kind[x] = NONE;
            state.tokens.unsealAll(x);
            state.wishes.endAllOf(x);
            if (kind == BOX) {
                state.runners.endAllIn(x);
                markTable(x);
            }
            if (kind == GATE || kind == PROMISE) {
                state.runners.stopAllAt(x);
            }
        }

        /** What a lost box had goes behind all things of this pass. */
        private void markTable(int box) {
            for (int i = 0; i < SLOTS; i++) {
                int t = state.table[box * SLOTS + i];
                if (t != NONE) {
                    mark(t);
                }
            }
        }
    }

    /** Acts on the slots of a box; what they use up is marked, and goes with the next sweep. */
    private static final class Acts {
        private final State state;
        private final Parting parting;
        int loaded = 0;

        Acts(State state, Parting parting) {
            this.state = state;
            this.parting = parting;
        }

        /** Whether it is an act that a step can do, too. */
        static boolean isAct(int what) {
            return what >= STEP_LEND && what <= STEP_DROP || what == STEP_PUT || what == STEP_GET;
        }

        /** Whether it could be done; else nothing is changed. */
        boolean perform(int box, int what, int a, int b, int c) {
            int token = state.tokenAt(box, a);
            int by = state.tokenAt(box, b);
            switch (what) {
                case STEP_LEND: return state.lend(token, LENT, ALL_BITS, box, c);
                case STEP_NARROW: return state.lend(token, NARROW, b, box, c);
                case STEP_ONCE: return state.lend(token, ONCE, ~(LEND | TAKE), box, c);
                case STEP_SPLIT: return split(token, b, box, c);
                case STEP_MAKE: return makeThing(token, b, box, c);
                case STEP_SEAL: return sealBy(token, by);
                case STEP_OPEN: return openBy(token, by);
                case STEP_TAKE: return takeBack(token);
                case STEP_DROP: return drop(token);
                case STEP_PUT:
                    return state.opensBox(by, WRITE)
                        && state.lend(token, LENT, ALL_BITS, state.tokens.thingOf[by], c)
                        && parting.useUp(by);
                case STEP_GET:
                    return state.opensBox(by, READ)
                        && state.lend(state.tokenAt(state.tokens.thingOf[by], a), LENT, ALL_BITS, box, c)
                        && parting.useUp(by);
                case ACT_TILL: return till(token, b);
                default: return false;
            }
        }

        /** Whether it could be read; what was read is in loaded. */
        boolean readOut(int box, int slot) {
            int token = state.tokenAt(box, slot);
            if (!state.fits(token, READ)) {
                return false;
            }
            int thing = state.tokens.thingOf[token];
            if (state.things.isOf(thing, PAGE)) {
                loaded = state.things.number[thing];
            } else if (state.things.isOf(thing, CLOCK)) {
                loaded = state.now;
            } else if (state.things.isOf(thing, LINE)) {
                loaded = state.things.nextIn(thing);
            } else {
                return false;
            }
            return parting.useUp(token);
        }

        boolean writeIn(int box, int slot, int v) {
            int token = state.tokenAt(box, slot);
            if (!state.fits(token, WRITE)) {
                return false;
            }
            int thing = state.tokens.thingOf[token];
            if (state.things.isOf(thing, PAGE)) {
                state.things.number[thing] = v;
            } else if (state.things.isOf(thing, LINE)) {
                state.things.putOut(thing, v);
            } else {
                return false;
            }
            return parting.useUp(token);
        }

        boolean keep(int runner, int slot) {
            int token = state.tokenAt(state.runners.box[runner], slot);
            if (!state.opensGate(token, READ)) {
                return false;
            }
            state.runners.keeper[runner] = state.tokens.thingOf[token];
            return parting.useUp(token);
        }

        private boolean isRoomOf(int token, int n) {
            return state.fits(token, MAKE) && state.tokens.thingOf[token] == NONE && state.tokens.room[token] >= n;
        }

        private boolean split(int token, int n, int box, int slot) {
            if (n < 1 || !isRoomOf(token, n)) {
                return false;
            }
            int rights = state.tokens.rights[token];
            int part = state.putToken(LENT, NONE, rights, token, box, slot, state.tokens.last[token]);
            if (part == NONE) {
                return false;
            }
            state.tokens.room[token] -= n;
            state.tokens.room[part] = n;
            return true;
        }

        private boolean makeThing(int token, int kind, int box, int slot) {
            if (kind < PAGE || kind > CLOCK || !isRoomOf(token, PRICE[kind])) {
                return false;
            }
            int thing = state.things.firstFree();
            if (thing == NONE || state.putToken(PLAIN, thing, THING_RIGHTS, NONE, box, slot, NONE) == NONE) {
                return false;
            }
            state.things.begin(thing, kind, token);
            state.tokens.room[token] -= PRICE[kind];
            return true;
        }

        private boolean sealBy(int token, int by) {
            if (!state.fits(token, LEND) || !state.fits(by, WRITE) || state.tokens.thingOf[by] == NONE) {
                return false;
            }
            state.tokens.seal[token] = state.tokens.thingOf[by];
            return parting.useUp(by);
        }

        private boolean openBy(int token, int by) {
            if (token == NONE || state.tokens.seal[token] == NONE || !state.fits(by, READ)) {
                return false;
            }
            if (state.tokens.thingOf[by] != state.tokens.seal[token]) {
                return false;
            }
            state.tokens.seal[token] = NONE;
            return parting.useUp(by);
        }

        private boolean takeBack(int token) {
            if (!state.fits(token, TAKE)) {
                return false;
            }
            state.tokens.doomBelow(token);
            return true;
        }

        private boolean drop(int token) {
            if (token == NONE) {
                return false;
            }
            parting.mark(token);
            return true;
        }

        private boolean till(int token, int tick) {
            if (tick < 0 || tick > LAST_TILL || !state.fits(token, LEND)) {
                return false;
            }
            if (state.tokens.last[token] == NONE || state.tokens.last[token] > tick) {
                state.tokens.last[token] = tick;
            }
            return true;
        }
    }

    /** Ticks, and the steps that runners do in them. */
    private static final class Turns {
        private final State state;
        private final Runners runners;
        private final Parting parting;
        private final Acts acts;

        Turns(State state, Parting parting, Acts acts) {
            this.state = state;
            this.runners = state.runners;
            this.parting = parting;
            this.acts = acts;
        }

        /** One tick: who did a step, or NONE. */
        int tick() {
            parting.markDoomed(PIECE);
            parting.sweep();
            int chosen = state.rule == RULE_FAIR ? chooseFair() : chooseByRow();
            if (chosen != NONE) {
                state.last = chosen;
                if (!hasStep(chosen) || !(isMeeting(chosen) ? meet(chosen) : work(chosen))) {
                    fault(chosen);
                }
                parting.sweep();
            }
            state.now++;
            return chosen;
        }

        private int chooseFair() {
            for (int i = 1; i <= runners.size; i++) {
                int r = (state.last + i) % runners.size;
                if (runners.isReady(r)) {
                    return r;
                }
            }
            return NONE;
        }

        private int chooseByRow() {
            if (state.timeSize == 0) {
                return NONE;
            }
            int r = state.timeRow[state.now % state.timeSize];
            if (!runners.isThere(r)) {
                return NONE;
            }
            // Who calls hands on its time to the one that serves it.
            for (int i = 0; i < RUNNERS && runners.server[r] != NONE; i++) {
                r = runners.server[r];
            }
            return runners.isReady(r) ? r : NONE;
        }

        private boolean hasStep(int r) {
            return runners.place[r] >= 0 && runners.place[r] < runners.steps[r];
        }

        private int stepOf(int r) {
            return r * PROGRAM + 4 * runners.place[r];
        }

        private boolean isMeeting(int r) {
            int what = runners.program[stepOf(r)];
            return what == STEP_CALL || what == STEP_WAIT || what == STEP_ANSWER;
        }

        /** A step of one's own: whether it could be done. */
        private boolean work(int r) {
            int at = stepOf(r);
            int what = runners.program[at];
            int a = runners.program[at + 1];
            int b = runners.program[at + 2];
            int c = runners.program[at + 3];
            int box = runners.box[r];
            int next = runners.place[r] + 1;
            switch (what) {
                case STEP_STOP:
                    runners.end(r, STOPPED);
                    break;
                case STEP_SET:
                    runners.acc[r] = a;
                    break;
                case STEP_ADD:
                    runners.acc[r] += a;
                    break;
                case STEP_JUMP:
                    next = runners.acc[r] != 0 ? a : next;
                    break;
                case STEP_LOAD:
                    if (!acts.readOut(box, a)) {
                        return false;
                    }
                    runners.acc[r] = acts.loaded;
                    break;
                case STEP_STORE:
                    if (!acts.writeIn(box, a, runners.acc[r])) {
                        return false;
                    }
                    break;
                default:
                    if (!Acts.isAct(what) || !acts.perform(box, what, a, b, c)) {
                        return false;
                    }
                    break;
            }
            runners.place[r] = next;
            return true;
        }

        /** A step with another runner: whether it could be done. */
        private boolean meet(int r) {
            int at = stepOf(r);
            int a = runners.program[at + 1];
            int b = runners.program[at + 2];
            int c = runners.program[at + 3];
            if (!isSlotOrNone(b) || !isSlotOrNone(c)) {
                return false;
            }
            switch (runners.program[at]) {
                case STEP_CALL: return callAt(r, a, b, c);
                case STEP_WAIT: return waitAt(r, a, b, c);
                default: return answer(r, b);
            }
        }

        private static boolean isSlotOrNone(int slot) {
            return slot >= NONE && slot < SLOTS;
        }

        private boolean callAt(int r, int a, int b, int c) {
            int token = state.tokenAt(runners.box[r], a);
            int gift = state.tokenAt(runners.box[r], b);
            if (!state.opensGate(token, WRITE) || b != NONE && !state.mayLend(gift)) {
                return false;
            }
            int gate = state.tokens.thingOf[token];
            int server = runners.leastWaiting(gate);
            if (server != NONE) {
                int box = runners.box[server];
                if (b != NONE && !state.lend(gift, LENT, ALL_BITS, box, runners.slotB[server])) {
                    return false;
                }
                serve(server, r);
            }
            runners.goesTo(r, CALLS, gate, b, c, state.now);
            return parting.useUp(token);
        }

        private boolean waitAt(int r, int a, int b, int c) {
            int token = state.tokenAt(runners.box[r], a);
            if (!state.opensGate(token, READ) || runners.serves[r] != NONE) {
                return false;
            }
            int gate = state.tokens.thingOf[token];
            int caller = runners.firstCalling(gate);
            for (int i = 0; i < RUNNERS && caller != NONE; i++) {
                // What a call lends is what is in its slot by now.
                int gift = state.tokenAt(runners.box[caller], runners.slotB[caller]);
                if (runners.slotB[caller] == NONE || state.lend(gift, LENT, ALL_BITS, runners.box[r], b)) {
                    break;
                }
                fault(caller);
                caller = runners.firstCalling(gate);
            }
            if (caller != NONE) {
                serve(r, caller);
            } else {
                runners.goesTo(r, WAITS, gate, b, c, state.now);
            }
            return parting.useUp(token);
        }

        private boolean answer(int r, int b) {
            int caller = runners.serves[r];
            if (caller == NONE) {
                return false;
            }
            int gift = state.tokenAt(runners.box[r], b);
            if (b != NONE && !state.lend(gift, LENT, ALL_BITS, runners.box[caller], runners.slotC[caller])) {
                return false;
            }
            int gate = runners.gate[caller];
            runners.serves[r] = NONE;
            runners.wake(caller, runners.acc[r]);
            runners.place[r]++;
            if (state.things.isOf(gate, PROMISE)) {
                parting.markAllOf(gate);
            }
            return true;
        }

        private void serve(int server, int caller) {
            runners.wake(server, runners.acc[caller]);
            runners.serves[server] = caller;
            runners.server[caller] = server;
        }

        private void fault(int r) {
            state.faults++;
            runners.end(r, STOPPED);
            if (runners.keeper[r] == NONE) {
                return;
            }
            int helper = runners.leastWaiting(runners.keeper[r]);
            if (helper != NONE) {
                runners.wake(helper, KEEPER_WORD + r);
            }
        }
    }

    /** Runs on the living state that are taken back. */
    private static final class Trials {
        private final State live;
        private final State before;
        private final Turns turns;
        private final int[][] seen = new int[MOST_TRIALS][3 * MOST_TRIAL_TICKS];

        Trials(State live, State before, Turns turns) {
            this.live = live;
            this.before = before;
            this.turns = turns;
        }

        int groups(int from, int to, int rule, int k, int n) {
            before.takeFrom(live);
            for (int j = 0; j < k; j++) {
                live.rule = rule;
                live.runners.acc[from] = j;
                for (int i = 0; i < n; i++) {
                    turns.tick();
                    noteSight(to, seen[j], 3 * i);
                }
                live.takeFrom(before);
            }
            int many = 0;
            for (int j = 0; j < k; j++) {
                many += isFirstOfGroup(j, 3 * n) ? 1 : 0;
            }
            return many;
        }

        private void noteSight(int to, int[] sight, int at) {
            sight[at] = live.runners.state[to] << SLOTS | emptySlots(to);
            sight[at + 1] = live.runners.place[to];
            sight[at + 2] = live.runners.acc[to];
        }

        /** A bit for each empty slot; none where the box is gone, whatever has its number now. */
        private int emptySlots(int r) {
            int bits = 0;
            for (int i = 0; i < SLOTS && live.runners.state[r] != GONE; i++) {
                if (live.tokenAt(live.runners.box[r], i) == NONE) {
                    bits |= 1 << i;
                }
            }
            return bits;
        }

        private boolean isFirstOfGroup(int j, int size) {
            for (int i = 0; i < j; i++) {
                boolean same = true;
                for (int at = 0; at < size && same; at++) {
                    same = seen[i][at] == seen[j][at];
                }
                if (same) {
                    return false;
                }
            }
            return true;
        }

        int ticksTillReady(int r) {
            before.takeFrom(live);
            int ticks = 0;
            while (ticks < MOST_TRIAL_TICKS && live.now < LAST_NOW && !live.runners.isReady(r)) {
                turns.tick();
                ticks++;
            }
            boolean isReady = live.runners.isReady(r);
            live.takeFrom(before);
            return isReady ? ticks : NONE;
        }

        int firstUnlike(int[] record, int size) {
            before.takeFrom(live);
            int unlike = NONE;
            for (int i = 0; i < size && unlike == NONE; i++) {
                if (turns.tick() != record[i]) {
                    unlike = i;
                }
            }
            live.takeFrom(before);
            return unlike;
        }
    }

    /** What boxes could ever hold, round by round. */
    private static final class Reach {
        // More than all rights of all boxes: each round but the last adds one.
        private static final int MOST_ROUNDS = 4 * THINGS * THINGS + 1;

        private final State state;
        private final int[] held = new int[THINGS * THINGS];
        private final int[] next = new int[THINGS * THINGS];
        private final long[] reads = new long[THINGS];
        private final long[] writes = new long[THINGS];

        Reach(State state) {
            this.state = state;
        }

        int everHeld(int box, int thing) {
            begin();
            boolean changes = true;
            for (int round = 0; round < MOST_ROUNDS && changes; round++) {
                changes = goOn();
            }
            return held[box * THINGS + thing];
        }

        int firstHeld(int box, int thing, int rights) {
            begin();
            boolean changes = true;
            for (int round = 0; round < MOST_ROUNDS && changes; round++) {
                if ((held[box * THINGS + thing] & rights) == rights) {
                    return round;
                }
                changes = goOn();
            }
            return NONE;
        }

        int firstBroken(int wish) {
            begin();
            boolean changes = true;
            for (int round = 0; round < MOST_ROUNDS && changes; round++) {
                if (isBroken(wish)) {
                    return round;
                }
                changes = goOn();
            }
            return NONE;
        }

        private boolean isBroken(int wish) {
            int x = state.wishes.x[wish];
            int y = state.wishes.y[wish];
            if (state.wishes.kind[wish] == Script.NEVER) {
                return (held[x * THINGS + y] & state.wishes.rights[wish]) != 0;
            }
            int shared = READ | WRITE | LEND;
            for (int t = 0; t < THINGS; t++) {
                if ((held[x * THINGS + t] & shared) != 0 && (held[y * THINGS + t] & shared) != 0) {
                    return true;
                }
            }
            return false;
        }

        private void begin() {
            Arrays.fill(held, 0);
            Tokens tokens = state.tokens;
            for (int t = 0; t < TOKENS; t++) {
                if (counts(t) && tokens.seal[t] == NONE) {
                    held[tokens.box[t] * THINGS + tokens.thingOf[t]] |= tokens.rights[t];
                }
            }
        }

        private boolean counts(int t) {
            return state.tokens.kind[t] != NONE && state.tokens.thingOf[t] != NONE && state.tokens.doomed[t] == 0;
        }

        /** One round, all at once by what was held in the one before: whether something changed. */
        private boolean goOn() {
            System.arraycopy(held, 0, next, 0, THINGS * THINGS);
            openSealed();
            gatherGates();
            for (int x = 0; x < THINGS; x++) {
                for (int y = 0; y < THINGS; y++) {
                    if (x != y && state.isBox(x) && state.isBox(y)) {
                        exchange(x, y);
                    }
                }
            }
            boolean changed = false;
            for (int i = 0; i < THINGS * THINGS; i++) {
                changed |= held[i] != next[i];
                held[i] = next[i];
            }
            return changed;
        }

        private void openSealed() {
            Tokens tokens = state.tokens;
            for (int t = 0; t < TOKENS; t++) {
                if (counts(t) && tokens.seal[t] != NONE && tokens.seal[t] != SEALED_BY_GONE) {
                    int row = tokens.box[t] * THINGS;
                    if ((held[row + tokens.seal[t]] & READ) != 0) {
                        next[row + tokens.thingOf[t]] |= tokens.rights[t];
                    }
                }
            }
        }

        /** Of each box, a bit for each gate of which it could hold READ, and WRITE. */
        private void gatherGates() {
            for (int x = 0; x < THINGS; x++) {
                reads[x] = 0;
                writes[x] = 0;
                for (int g = 0; g < THINGS; g++) {
                    int rights = state.things.isMeetingPlace(g) ? held[x * THINGS + g] : 0;
                    reads[x] |= (rights & READ) != 0 ? 1L << g : 0;
                    writes[x] |= (rights & WRITE) != 0 ? 1L << g : 0;
                }
            }
        }

        private void exchange(int x, int y) {
            boolean meets = (writes[x] & reads[y]) != 0;
            if (meets || (held[x * THINGS + y] & WRITE) != 0) {
                give(x, y);
            }
            if (meets || (held[x * THINGS + y] & READ) != 0) {
                give(y, x);
            }
        }

        private void give(int from, int to) {
            for (int t = 0; t < THINGS; t++) {
                if ((held[from * THINGS + t] & LEND) != 0) {
                    next[to * THINGS + t] |= held[from * THINGS + t];
                }
            }
        }
    }

    /** The statements of a text: read whole first, done then. */
    private static final class Script {
        private static final int GETS = 0;
        private static final int NEVER = 1;
        private static final int APART = 2;
        private static final String LETTERS = "rwlt";
        private static final int BLANK = 32;

        private final State state;
        private final int[] kind = new int[TAPE_SIZE];
        private final int[] x = new int[TAPE_SIZE];
        private final int[] y = new int[TAPE_SIZE];
        private final int[] rights = new int[TAPE_SIZE];
        private int[] tape = new int[0];
        private int end = 0;
        private int at = 0;
        private int found = 0;
        int size = 0;

        Script(State state) {
            this.state = state;
        }

        /** The place of the FAULT, or NONE. */
        int parse(int[] bytes, int many) {
            tape = bytes;
            end = many;
            at = 0;
            size = 0;
            for (int i = 0; i <= end && size < TAPE_SIZE; i++) {
                if (!readStatement()) {
                    return at;
                }
                size++;
                if (at >= end) {
                    return NONE;
                }
                if (!isNext(';')) {
                    return at;
                }
                at++;
            }
            return at;
        }

        /** Reads on while a text can go on: at is where it can't. */
        private boolean readStatement() {
            if (isNext('g')) {
                return readParts(GETS, "gets");
            }
            if (isNext('n')) {
                return readParts(NEVER, "never");
            }
            return readParts(APART, "apart");
        }

        private boolean readParts(int what, String word) {
            kind[size] = what;
            if (!readWord(word) || !readNumber()) {
                return false;
            }
            x[size] = found;
            if (!readNumber()) {
                return false;
            }
            y[size] = found;
            if (what == APART) {
                return true;
            }
            rights[size] = readRights();
            return rights[size] != 0;
        }

        private boolean isNext(int sign) {
            return at < end && tape[at] == sign;
        }

        private boolean readWord(String word) {
            for (int i = 0; i < word.length(); i++) {
                if (!isNext(word.charAt(i))) {
                    return false;
                }
                at++;
            }
            return true;
        }

        private boolean readBlanks() {
            int from = at;
            for (; at < end && tape[at] == BLANK; at++) {
                // no more than the tape has
            }
            return at > from;
        }

        private boolean readNumber() {
            if (!readBlanks()) {
                return false;
            }
            int digits = 0;
            found = 0;
            while (digits < 2 && at < end && tape[at] >= '0' && tape[at] <= '9') {
                found = 10 * found + tape[at] - '0';
                digits++;
                at++;
            }
            return digits > 0;
        }

        /** The rights that are told; 0 if there are none, which no statement can do with. */
        private int readRights() {
            int all = 0;
            int bit = readBlanks() ? nextRight() : 0;
            for (int i = 0; i < LETTERS.length() && bit != 0 && (all & bit) == 0; i++) {
                all |= bit;
                at++;
                bit = nextRight();
            }
            return all;
        }

        private int nextRight() {
            for (int i = 0; i < LETTERS.length(); i++) {
                if (isNext(LETTERS.charAt(i))) {
                    return 1 << i;
                }
            }
            return 0;
        }

        /** Whether all could be done; if not, some may be. */
        boolean perform() {
            for (int i = 0; i < size; i++) {
                if (!performOne(i)) {
                    return false;
                }
            }
            return true;
        }

        private boolean performOne(int i) {
            boolean hasSecond = kind[i] == APART ? state.isBox(y[i]) : state.things.isThere(y[i]);
            if (!state.isBox(x[i]) || !hasSecond) {
                return false;
            }
            if (kind[i] != GETS) {
                return state.wishes.add(kind[i], x[i], y[i], rights[i]);
            }
            for (int slot = 0; slot < SLOTS; slot++) {
                if (state.tokenAt(x[i], slot) == NONE) {
                    return state.putToken(PLAIN, y[i], rights[i], NONE, x[i], slot, NONE) != NONE;
                }
            }
            return false;
        }
    }
}
