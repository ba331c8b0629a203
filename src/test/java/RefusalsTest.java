import java.util.ArrayList;
import java.util.List;

/**
 * Terms 8 and promises 2 to 40: each refusal of each call, of several the first as its line has them,
 * counted by status() under what it tells alone; 'a refused call changes nothing but status()'.
 */
public final class RefusalsTest {
    private static final int MISSING = -2;
    private static final int BEYOND = -3;
    private static final int BELOW = -4;
    private static final int KIND = -5;
    private static final int COPY = -6;
    private static final int NO = -7;
    private static final int FULL = -8;
    private static final int LOW = Integer.MIN_VALUE;
    private static final int HIGH = Integer.MAX_VALUE;

    private static final int READY = 0;
    private static final int WAITS = 1;
    private static final int CALLS = 3;
    private static final int STOPPED = 4;
    private static final int GONE = 5;

    private static Due due = new Due();
    private static TokenHeart x;

    private interface Call {
        int answer();
    }

    public static void main(String[] args) {
        x = rich();
        due.is("the state is as it is told", readyForAll(), 1);
        act();
        loadAndStore();
        looking();
        runners();
        timeAndIn();
        leaksAndRecords();
        wires();
        tapeAndText();
        sheetsAndRows();
        due.is("the image is as it was", x.back(), 7);
        due.is("the page, too", x.load(0, 1), 70);
        noImage();
        full();
        notRefused();
        due.end("RefusalsTest");
    }

    /**
     * Page 1, box 2, gate 3, promise 4, line 5, clock 6 in these slots of box 0, in slot 7 a token that
     * is sealed, in 8 one that is doomed; runners that are READY (0, 2), WAIT (1), CALL (3), are STOPPED
     * (4), GONE (5); sheets of 12, 0, 160 numbers, one that is missing (2); a row of 5; a tape "ge".
     */
    private static TokenHeart rich() {
        TokenHeart h = new TokenHeart();
        int[] kinds = {Due.PAGE, Due.BOX, Due.GATE, Due.PROMISE, Due.LINE, Due.CLOCK, Due.BOX};
        for (int i = 0; i < 7; i++) {
            h.act(0, Due.MAKE, 0, Due.bc(kinds[i], 1 + i));
        }
        int[][] programs = {{2, 1, 0, 0, 3, 0, 0, 0}, {16, 3, -1, -1}, {16, 4, -1, -1, 2, 1, 0, 0, 3, 1, 0, 0}, {15, 4, -1, -1}, {0, 0, 0, 0},
            {0, 0, 0, 0}};
        for (int r = 0; r < 6; r++) {
            Due.runner(h, r == GONE ? 7 : 0, programs[r]);
        }
        h.act(0, Due.DROP, 7, 0);
        h.keeper(READY, 3);
        Due.rows(h, 0, 1, 2, 3, 4, 0, -1, 9, 8, 7, 6, 5, 4);
        h.time(0);
        h.rule(1);
        h.run(5);
        h.rule(0);
        h.run(2);
        Due.rows(h, 3, 41, 42, 43);
        h.in(5, 3);
        h.load(0, 5);
        h.store(0, 5, 51);
        h.store(0, 5, 52);
        h.store(0, 1, 70);
        h.act(0, Due.LEND, 1, Due.bc(0, 7));
        h.act(0, Due.SEAL, 7, Due.bc(3, 0));
        h.act(0, Due.LEND, 6, Due.bc(0, 8));
        h.act(0, Due.TAKE, 6, 0);
        due.is("wishes", Due.read(h, "never 2 1 r;apart 0 2"), 2);
        h.image();
        h.store(0, 1, 77);
        h.sheet(1, 0);
        h.sheet(3, 160);
        h.set(3, 159, 3);
        h.lay(5);
        h.write(4, 45);
        h.feed('g' << 8 | 'e', 2);
        return h;
    }

    private static int readyForAll() {
        int[] states = {0, 1, 0, 2, 3, 4};
        int so = 1;
        for (int r = 0; r < 6; r++) {
            so *= x.look(r, 1) == states[r] ? 1 : 0;
        }
        return so * (x.count(3) == 1 ? 1 : 0) * (x.token(x.slot(0, 7), 7) == 3 ? 1 : 0);
    }

    /** All that can be looked at, but status(); what is told by 0 is told with whether it was refused. */
    private static List<Integer> all() {
        List<Integer> all = new ArrayList<>();
        for (int i = 0; i < 12; i++) {
            all.add(x.count(i));
        }
        for (int i = 0; i < 40; i++) {
            for (int what = 0; what < 6; what++) {
                all.add(x.thing(i, what));
            }
            for (int k = 0; k < 30; k++) {
                all.add(x.out(i, k));
            }
            for (int s = 0; s < 10; s++) {
                all.add(x.slot(i, s));
            }
            for (int k = 0; k < 40; k++) {
                all.add(x.could(i, k));
            }
        }
        for (int i = 0; i < 120; i++) {
            for (int what = 0; what < 10; what++) {
                all.add(x.token(i, what));
            }
        }
        for (int i = 0; i < 8; i++) {
            for (int what = 0; what < 9; what++) {
                all.add(x.look(i, what));
            }
            for (int k = 0; k < 160; k++) {
                all.add(x.step(i, k / 4, k % 4));
            }
            all.add(x.late(i));
        }
        for (int i = 0; i < 20; i++) {
            all.add(x.show(i));
        }
        allRows(all);
        return all;
    }

    private static void allRows(List<Integer> all) {
        for (int s = 0; s < 4; s++) {
            for (int i = 0; i <= 160; i++) {
                int refused = x.status(MISSING) + x.status(BEYOND);
                int v = x.set(s, i, 0);
                all.add(v);
                all.add(x.status(MISSING) + x.status(BEYOND) - refused);
                x.set(s, i, v);
            }
        }
        for (int i = 0; i <= 60; i++) {
            int refused = x.status(MISSING) + x.status(BEYOND);
            all.add(x.row(i));
            all.add(x.status(MISSING) + x.status(BEYOND) - refused);
        }
        all.add(x.judge());
        all.add(x.count(7) == 2 ? x.text() : 0);
    }

    private static void refused(String name, int want, int why, Call call) {
        List<Integer> before = all();
        int[] status = new int[9];
        for (int by = MISSING; by >= FULL; by--) {
            status[-by] = x.status(by);
        }
        due.is(name, call.answer(), want);
        for (int by = MISSING; by >= FULL; by--) {
            due.is(name + ": status(" + by + ")", x.status(by) - status[-by], by == why ? 1 : 0);
        }
        due.is(name + ": nothing is changed", before.equals(all()) ? 1 : 0, 1);
    }

    private static void refused(String name, int why, Call call) {
        refused(name, why, why, call);
    }

    private static void zero(String name, int why, Call call) {
        refused(name, 0, why, call);
    }

    // Promise 2: BEYOND: BOX; KIND: none of these; NO: bc below 0, or it can't be done
    private static void act() {
        int[] noBox = {-1, 1, 3, 7, 39, 40, LOW, HIGH};
        for (int box : noBox) {
            refused("act of box " + box, BEYOND, () -> x.act(box, Due.DROP, 1, 0));
            refused("act of box " + box + ", no kind, bc -1", BEYOND, () -> x.act(box, 99, 1, -1));
        }
        int[] noKind = {LOW, -1, 0, 1, 2, 3, 4, 5, 15, 16, 17, 21, HIGH};
        for (int what : noKind) {
            refused("act " + what, KIND, () -> x.act(0, what, 1, Due.bc(1, 9)));
            refused("act " + what + ", bc -1", KIND, () -> x.act(0, what, 1, -1));
        }
        int[] kinds = {6, 7, 8, 9, 10, 11, 12, 13, 14, 18, 19, 20};
        for (int what : kinds) {
            refused("act " + what + ", bc -1", NO, () -> x.act(0, what, what == 9 || what == 10 ? 0 : 1, -1));
            refused("act " + what + ", bc low", NO, () -> x.act(0, what, what == 9 || what == 10 ? 0 : 1, LOW));
            refused("act " + what + " of slot 9", NO, () -> x.act(0, what, 9, Due.bc(1, 9)));
            refused("act " + what + " of slot 10", NO, () -> x.act(0, what, 10, Due.bc(1, 9)));
            refused("act " + what + " of slot -1", NO, () -> x.act(0, what, -1, Due.bc(1, 9)));
            refused("act " + what + " of box 2", NO, () -> x.act(2, what, 1, Due.bc(1, 9)));
            if (what != Due.DROP && what != Due.OPEN) {
                refused("act " + what + " of a SEALED one", NO, () -> x.act(0, what, 7, Due.bc(1, 9)));
                refused("act " + what + " of a DOOMED one", NO, () -> x.act(0, what, 8, Due.bc(1, 9)));
            }
        }
        refused("MAKE with bc high", NO, () -> x.act(0, Due.MAKE, 0, HIGH));
        refused("NARROW with bc high", NO, () -> x.act(0, Due.NARROW, 1, HIGH));
    }

    // Promises 3 and 4: BEYOND: BOX, SLOT; NO
    private static void loadAndStore() {
        int[][] beyond = {{-1, 1}, {1, 1}, {40, 1}, {LOW, 1}, {HIGH, 1}, {0, -1}, {0, 10}, {0, LOW}, {0, HIGH}, {7, 10}};
        for (int[] p : beyond) {
            zero("load(" + p[0] + ", " + p[1] + ")", BEYOND, () -> x.load(p[0], p[1]));
            refused("store(" + p[0] + ", " + p[1] + ")", BEYOND, () -> x.store(p[0], p[1], 5));
        }
        int[] noLoad = {0, 2, 3, 4, 7, 8, 9};
        for (int slot : noLoad) {
            zero("load(0, " + slot + ")", NO, () -> x.load(0, slot));
        }
        int[] noStore = {0, 2, 3, 4, 6, 7, 8, 9};
        for (int slot : noStore) {
            refused("store(0, " + slot + ")", NO, () -> x.store(0, slot, 5));
        }
        zero("load(2, 0)", NO, () -> x.load(2, 0));
        refused("store(2, 0)", NO, () -> x.store(2, 0, 5));
    }

    // Promises 5 to 10, and 14
    private static void looking() {
        int[] noThing = {-1, 7, 39, 40, LOW, HIGH};
        for (int t : noThing) {
            refused("thing(" + t + ", 0)", BEYOND, () -> x.thing(t, 0));
            refused("thing(" + t + ", 6)", BEYOND, () -> x.thing(t, 6));
            zero("out(" + t + ", 0)", BEYOND, () -> x.out(t, 0));
            refused("slot(" + t + ", 0)", BEYOND, () -> x.slot(t, 0));
        }
        int[] noWhat = {-1, 6, LOW, HIGH};
        for (int what : noWhat) {
            refused("thing(1, " + what + ")", NO, () -> x.thing(1, what));
        }
        int[] noLine = {0, 1, 2, 3, 4, 6};
        int[] places = {-1, 0, 30, LOW, HIGH};
        for (int t : noLine) {
            for (int i : places) {
                zero("out(" + t + ", " + i + ")", KIND, () -> x.out(t, i));
            }
        }
        int[] noPlace = {-1, 2, 29, 30, LOW, HIGH};
        for (int i : noPlace) {
            zero("out(5, " + i + ")", BEYOND, () -> x.out(5, i));
        }
        int[] noSlot = {-1, 10, LOW, HIGH};
        for (int s : noSlot) {
            refused("slot(0, " + s + ")", BEYOND, () -> x.slot(0, s));
        }
        refused("slot of a page", BEYOND, () -> x.slot(1, 0));
        tokens();
    }

    private static void tokens() {
        int[] noToken = {-1, 9, 119, 120, LOW, HIGH};
        for (int t : noToken) {
            refused("token(" + t + ", 0)", BEYOND, () -> x.token(t, 0));
            refused("token(" + t + ", 10)", BEYOND, () -> x.token(t, 10));
            refused("below(" + t + ")", BEYOND, () -> x.below(t));
            refused("isBelow(" + t + ", 0)", BEYOND, () -> x.isBelow(t, 0));
            refused("isBelow(0, " + t + ")", BEYOND, () -> x.isBelow(0, t));
            refused("isBelow of itself, " + t, BEYOND, () -> x.isBelow(t, t));
        }
        int[] noWhat = {-1, 10, LOW, HIGH};
        for (int what : noWhat) {
            refused("token(0, " + what + ")", NO, () -> x.token(0, what));
        }
        int[][] noStep = {{-1, 0, 0}, {6, 0, 0}, {8, 0, 0}, {LOW, 0, 0}, {HIGH, 0, 0}, {0, -1, 0}, {0, 2, 0}, {0, 40, 0},
            {0, LOW, 0}, {0, HIGH, 0}, {0, 0, -1}, {0, 0, 4}, {0, 0, LOW}, {0, 1, HIGH}, {GONE, 1, 0}};
        for (int[] s : noStep) {
            zero("step(" + s[0] + ", " + s[1] + ", " + s[2] + ")", BEYOND, () -> x.step(s[0], s[1], s[2]));
        }
    }

    // Promises 11 to 13, 15 to 17, 20
    private static void runners() {
        int[][] beyond = {{-1, 0}, {1, 0}, {7, 0}, {40, 0}, {0, -1}, {0, 4}, {0, LOW}, {HIGH, 0}, {7, 2}, {0, HIGH}};
        for (int[] p : beyond) {
            refused("runner(" + p[0] + ", " + p[1] + ")", BEYOND, () -> x.runner(p[0], p[1]));
        }
        refused("runner by a missing sheet", MISSING, () -> x.runner(0, 2));
        int[] noRunner = {-1, 6, 7, 8, LOW, HIGH};
        for (int r : noRunner) {
            refused("keeper(" + r + ", -1)", BEYOND, () -> x.keeper(r, -1));
            refused("keeper(" + r + ", 10)", BEYOND, () -> x.keeper(r, 10));
            refused("look(" + r + ", 0)", BEYOND, () -> x.look(r, 0));
            refused("look(" + r + ", 9)", BEYOND, () -> x.look(r, 9));
            refused("tell(" + r + ", 0)", BEYOND, () -> x.tell(r, 0));
            refused("resume(" + r + ", 0)", BEYOND, () -> x.resume(r, 0));
            refused("resume(" + r + ", 41)", BEYOND, () -> x.resume(r, 41));
            refused("late(" + r + ")", BEYOND, () -> x.late(r));
        }
        int[] noSlot = {-2, 10, LOW, HIGH, 9, 0, 1, 2, 5, 6, 7, 8};
        for (int s : noSlot) {
            refused("keeper(0, " + s + ")", NO, () -> x.keeper(READY, s));
        }
        refused("keeper of one that is GONE", NO, () -> x.keeper(GONE, 3));
        int[] noWhat = {-1, 9, LOW, HIGH};
        for (int what : noWhat) {
            refused("look(0, " + what + ")", NO, () -> x.look(READY, what));
        }
        int[] notReady = {WAITS, CALLS, STOPPED, GONE};
        for (int r : notReady) {
            refused("tell(" + r + ", 5)", NO, () -> x.tell(r, 5));
        }
        int[] notStopped = {READY, WAITS, 2, CALLS, GONE};
        for (int r : notStopped) {
            refused("resume(" + r + ", 0)", NO, () -> x.resume(r, 0));
        }
        int[] noPlace = {-1, 41, LOW, HIGH};
        for (int p : noPlace) {
            refused("resume(4, " + p + ")", NO, () -> x.resume(STOPPED, p));
        }
        runsAndRules();
    }

    private static void runsAndRules() {
        int[] noRule = {-1, 2, LOW, HIGH};
        for (int r : noRule) {
            refused("rule(" + r + ")", NO, () -> x.rule(r));
        }
        int[] below = {-1, -200, LOW};
        for (int n : below) {
            refused("run(" + n + ")", BELOW, () -> x.run(n));
        }
        int[] no = {0, 201, HIGH};
        for (int n : no) {
            refused("run(" + n + ")", NO, () -> x.run(n));
        }
    }

    // Promises 18 and 19
    private static void timeAndIn() {
        int[] noSheet = {-1, 4, LOW, HIGH};
        for (int s : noSheet) {
            refused("time(" + s + ")", BEYOND, () -> x.time(s));
            refused("in(5, " + s + ")", BEYOND, () -> x.in(5, s));
            refused("in(1, " + s + ")", BEYOND, () -> x.in(1, s));
        }
        refused("time(2)", MISSING, () -> x.time(2));
        int[] noThing = {-1, 7, 40, LOW, HIGH};
        for (int t : noThing) {
            refused("in(" + t + ", 0)", BEYOND, () -> x.in(t, 0));
            refused("in(" + t + ", 2)", BEYOND, () -> x.in(t, 2));
        }
        refused("in(5, 2)", MISSING, () -> x.in(5, 2));
        refused("in(1, 2)", MISSING, () -> x.in(1, 2));
        int[] noLine = {0, 1, 2, 3, 4, 6};
        for (int t : noLine) {
            refused("in(" + t + ", 0)", KIND, () -> x.in(t, 0));
        }
    }

    // Promises 21 to 23 (BEYOND of late() is with the runners)
    private static void leaksAndRecords() {
        int[] beyond = {-1, -10, 6, 7, 8, 9, 60, 76, 80, 90, 99, 100, 1000, LOW, HIGH};
        for (int r : beyond) {
            refused("leak(" + r + ", 0, 205)", BEYOND, () -> x.leak(r, 0, 205));
            refused("leak(" + r + ", 2, 0)", BEYOND, () -> x.leak(r, 2, 0));
        }
        int[] noRule = {-1, 2, LOW, HIGH};
        for (int rule : noRule) {
            refused("leak(1, " + rule + ", 205)", NO, () -> x.leak(1, rule, 205));
        }
        int[] noRuns = {0, 1, 60, 100, 101, 160, 199, 200, 261, 299, 1600, 1661, 1701, 1760, -205, -1, LOW, HIGH};
        for (int told : noRuns) {
            refused("leak(1, 0, " + told + ")", NO, () -> x.leak(1, 0, told));
        }
        int[] noPair = {0, 11, 22, 33, 44, 55, 10, 30, 32, 40, 50};
        for (int r : noPair) {
            refused("leak(" + r + ", 0, 205)", NO, () -> x.leak(r, 0, 205));
        }
        x.lay(0);
        refused("judge of 0 numbers", KIND, () -> x.judge());
        x.tear();
        refused("judge of none", MISSING, () -> x.judge());
        x.lay(5);
        x.write(4, 45);
    }

    // Promises 24 to 26
    private static void wires() {
        int[][] beyond = {{-1, 1}, {1, 1}, {7, 1}, {40, 1}, {LOW, 1}, {HIGH, 1}, {0, -1}, {0, 7}, {0, 40}, {0, LOW}, {0, HIGH}};
        for (int[] p : beyond) {
            String name = "(" + p[0] + ", " + p[1] + ")";
            refused("could" + name, BEYOND, () -> x.could(p[0], p[1]));
            refused("when" + name, BEYOND, () -> x.when(p[0], p[1], 1));
            refused("when" + name + ", no rights", BEYOND, () -> x.when(p[0], p[1], 0));
        }
        int[] noRights = {0, 16, -1, 31, LOW, HIGH};
        for (int r : noRights) {
            refused("when(0, 1, " + r + ")", NO, () -> x.when(0, 1, r));
        }
        int[] noWish = {-1, 2, 19, 20, LOW, HIGH};
        for (int w : noWish) {
            refused("show(" + w + ")", BEYOND, () -> x.show(w));
        }
        int[] noCount = {-1, 12, LOW, HIGH};
        for (int what : noCount) {
            refused("count(" + what + ")", NO, () -> x.count(what));
        }
    }

    // Promises 27 to 29: a FAULT is not one of -2 .. -8
    private static void tapeAndText() {
        int[] below = {-1, -4, LOW};
        for (int n : below) {
            refused("feed(97, " + n + ")", BELOW, () -> x.feed(97, n));
        }
        int[] no = {5, 160, HIGH};
        for (int n : no) {
            refused("feed(97, " + n + ")", NO, () -> x.feed(97, n));
        }
        refused("a FAULT", -12, 0, () -> x.text());
        x.wipe();
        String[] bad = {"gets 9 1 r", "never 1 1 r", "apart 0 1", "gets 0 1 r;gets 0 1 r"};
        for (String text : bad) {
            x.wipe();
            for (int i = 0; i < text.length(); i++) {
                x.feed(text.charAt(i), 1);
            }
            refused("text '" + text + "'", NO, () -> x.text());
        }
        x.wipe();
        x.feed('g' << 8 | 'e', 2);
    }

    // Promises 33 to 40
    private static void sheetsAndRows() {
        int[] noSheet = {-1, 4, LOW, HIGH};
        for (int s : noSheet) {
            refused("sheet(" + s + ", 5)", BEYOND, () -> x.sheet(s, 5));
            refused("sheet(" + s + ", -2)", BEYOND, () -> x.sheet(s, -2));
            refused("sheet(" + s + ", 161)", BEYOND, () -> x.sheet(s, 161));
            zero("set(" + s + ", 0, 5)", BEYOND, () -> x.set(s, 0, 5));
            refused("copy(" + s + ", 0, 0, 1)", BEYOND, () -> x.copy(s, 0, 0, 1));
            refused("copy(" + s + ", -1, -1, -1)", BEYOND, () -> x.copy(s, -1, -1, -1));
        }
        int[] below = {-2, -3, LOW};
        for (int n : below) {
            refused("sheet(0, " + n + ")", BELOW, () -> x.sheet(0, n));
        }
        refused("sheet(0, 161)", NO, () -> x.sheet(0, 161));
        refused("sheet(2, high)", NO, () -> x.sheet(2, HIGH));
        int[] noPlace = {-1, 12, 160, LOW, HIGH};
        for (int i : noPlace) {
            zero("set(0, " + i + ", 5)", BEYOND, () -> x.set(0, i, 5));
            zero("set(2, " + i + ", 5)", MISSING, () -> x.set(2, i, 5));
        }
        zero("set(1, 0, 5)", BEYOND, () -> x.set(1, 0, 5));
        zero("set(3, 160, 5)", BEYOND, () -> x.set(3, 160, 5));
        rows();
        copies();
        int[] noStatus = {-1, 0, 1, -9, LOW, HIGH};
        for (int by : noStatus) {
            refused("status(" + by + ")", NO, () -> x.status(by));
        }
    }

    private static void rows() {
        refused("lay(-1)", BELOW, () -> x.lay(-1));
        refused("lay(low)", BELOW, () -> x.lay(LOW));
        refused("lay(61)", NO, () -> x.lay(61));
        refused("lay(high)", NO, () -> x.lay(HIGH));
        int[] noPlace = {-1, 5, 59, 60, LOW, HIGH};
        for (int i : noPlace) {
            zero("write(" + i + ", 5)", BEYOND, () -> x.write(i, 5));
            zero("row(" + i + ")", BEYOND, () -> x.row(i));
        }
        x.tear();
        int[] places = {-1, 0, 60};
        for (int i : places) {
            zero("write(" + i + ", 5) of none", MISSING, () -> x.write(i, 5));
            zero("row(" + i + ") of none", MISSING, () -> x.row(i));
        }
        refused("copy to none", MISSING, () -> x.copy(0, 0, 0, 1));
        refused("copy to none, n -1", MISSING, () -> x.copy(0, 0, 0, -1));
        x.lay(5);
        x.write(4, 45);
    }

    // Promise 39: BEYOND; MISSING: one of them; BELOW: n; COPY
    private static void copies() {
        refused("copy of none", MISSING, () -> x.copy(2, 0, 0, 1));
        refused("copy of none, n -1", MISSING, () -> x.copy(2, -1, -1, -1));
        refused("copy of -1", BELOW, () -> x.copy(0, 0, 0, -1));
        refused("copy of -1, i -1", BELOW, () -> x.copy(0, -1, -1, -1));
        refused("copy of low", BELOW, () -> x.copy(0, 0, 0, LOW));
        int[][] no = {{0, -1, 0, 1}, {0, 0, -1, 1}, {0, LOW, 0, 1}, {0, 0, LOW, 1}, {0, 0, 0, 6}, {0, 8, 0, 5}, {0, 0, 1, 5},
            {0, 12, 0, 1}, {0, 0, 5, 1}, {0, 13, 0, 0}, {0, 0, 6, 0}, {0, -1, 0, 0}, {0, 0, -1, 0}, {0, HIGH, 0, 1},
            {0, 0, HIGH, 1}, {0, 1, 0, HIGH}, {0, 0, 1, HIGH}, {0, HIGH, HIGH, HIGH}, {1, 0, 0, 1}, {1, 1, 0, 0}};
        for (int[] c : no) {
            refused("copy(" + c[0] + ", " + c[1] + ", " + c[2] + ", " + c[3] + ")", COPY, () -> x.copy(c[0], c[1], c[2], c[3]));
        }
    }

    // Promise 32: MISSING
    private static void noImage() {
        x = new TokenHeart();
        x.feed('g' << 8 | 'e', 2);
        x.store(0, 0, 1);
        refused("back() without an image", MISSING, () -> x.back());
        x.image();
        due.is("with one", x.back(), 0);
    }

    // FULL of promises 11, 20, 21, 23, 27
    private static void full() {
        x = rich();
        x.runner(0, 0);
        x.runner(0, 0);
        refused("a ninth runner", FULL, () -> x.runner(0, 0));
        refused("a ninth by a missing sheet", MISSING, () -> x.runner(0, 2));
        refused("a ninth of no box", BEYOND, () -> x.runner(1, 0));
        for (int i = 0; i < 79; i++) {
            x.feed(0, 2);
        }
        refused("feed(0, 1)", FULL, () -> x.feed(0, 1));
        refused("feed(0, 4)", FULL, () -> x.feed(0, 4));
        refused("feed(0, -1)", BELOW, () -> x.feed(0, -1));
        refused("feed(0, 5)", NO, () -> x.feed(0, 5));
        for (int i = 0; i < 49; i++) {
            x.run(200);
        }
        x.run(187);
        due.is("now", x.count(0), 9994);
        x.resume(READY, 0);
        due.is("a READY one", x.look(READY, 1), 0);
        refused("run(6)", FULL, () -> x.run(6));
        refused("run(200)", FULL, () -> x.run(200));
        refused("run(201)", NO, () -> x.run(201));
        refused("run(-1)", BELOW, () -> x.run(-1));
        refused("leak(1, 0, 206)", FULL, () -> x.leak(1, 0, 206));
        refused("leak(1, 0, 1660)", FULL, () -> x.leak(1, 0, 1660));
        refused("leak(1, 2, 206)", NO, () -> x.leak(1, 2, 206));
        refused("leak(10, 0, 206)", NO, () -> x.leak(10, 0, 206));
        refused("leak(8, 0, 206)", BEYOND, () -> x.leak(8, 0, 206));
        x.lay(6);
        refused("judge of 6", FULL, () -> x.judge());
        x.lay(0);
        refused("judge of 0", KIND, () -> x.judge());
        x.lay(5);
        due.is("up to 9999", x.judge() >= -1 ? 1 : 0, 1);
        due.is("up to 9999", x.leak(1, 0, 205) > 0 ? 1 : 0, 1);
        due.is("up to 9999", x.run(5) >= 0 ? 1 : 0, 1);
        due.is("now", x.count(0), 9999);
        refused("run(1)", FULL, () -> x.run(1));
    }

    /** What is at the edge, and isn't refused: also an answer that is a number below 0 is none. */
    private static void notRefused() {
        x = rich();
        int[] status = new int[9];
        for (int by = MISSING; by >= FULL; by--) {
            status[-by] = x.status(by);
        }
        for (int v = MISSING; v >= FULL; v--) {
            x.store(0, 1, v);
            due.is("load", x.load(0, 1), v);
            due.is("thing", x.thing(1, 2), v);
            x.tell(READY, v);
            due.is("look", x.look(READY, 3), v);
            x.set(0, 0, v);
            due.is("set", x.set(0, 0, v), v);
            x.write(0, v);
            due.is("row", x.row(0), v);
            due.is("write", x.write(0, v), v);
            x.store(0, 5, v);
            due.is("out", x.out(5, x.thing(5, 4) - 1), v);
        }
        due.is("keeper of one that is GONE: none", x.keeper(GONE, -1), 1);
        due.is("sheet -1", x.sheet(2, -1), -1);
        due.is("sheet 160", x.sheet(2, 160), 160);
        due.is("lay 60", x.lay(60), 60);
        due.is("lay 0", x.lay(0), 0);
        due.is("tear", x.tear(), 1);
        due.is("tear", x.tear(), 0);
        due.is("wipe", x.wipe(), 2);
        due.is("a FAULT", x.text(), -10);
        due.is("feed 0", x.feed(7, 0), 0);
        due.is("resume at 40", x.resume(STOPPED, 40), 1);
        due.is("run", x.run(200) > 0 ? 1 : 0, 1);
        due.is("no token there", x.slot(0, 9), -1);
        due.is("nobody's gate", x.look(READY, 5), -1);
        for (int by = MISSING; by >= FULL; by--) {
            due.is("status(" + by + ")", x.status(by), status[-by]);
        }
    }
}
