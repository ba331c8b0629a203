/**
 * Terms 3, 4, 5, 7, and what 'More precisely' says of them: a test for each sentence that names an edge.
 */
public final class RunnersEdgesTest {
    private static final int STOP = 0;
    private static final int SET = 1;
    private static final int ADD = 2;
    private static final int JUMP = 3;
    private static final int CALL = 15;
    private static final int WAIT = 16;
    private static final int ANSWER = 17;

    private static Due due = new Due();

    public static void main(String[] args) {
        programs();
        emptyProgram();
        sumsWrap();
        jumps();
        otherNumbers();
        badPlaces();
        faultChangesNothing();
        keepers();
        keeperOfAll();
        keeperOfOneThatServes();
        keepersAtTheSameGate();
        stopsWhileItServes();
        whoWasServedIsStopped();
        goneWithItsPlace();
        callEdges();
        callTakenByTheLeast();
        callLendsWhatIsThereNow();
        nextCallIsLookedAt();
        ownWaitIsNoWait();
        answerEdges();
        promiseEdges();
        gateThatGoes();
        boxThatGoes();
        thingsByNumbers();
        tablesBehindThings();
        lastTickOfCalls();
        slotOnlyIfLent();
        onceIsThereTillDone();
        fairTurns();
        rowTurns();
        rowHandsOn();
        chosenLastByAnyRule();
        lastNow();
        leakEdges();
        leakSees();
        lateEdges();
        records();
        due.end("RunnersEdgesTest");
    }

    /** Gate 1, box 2, page 3, promise 4 in these slots; box 2 has the gate in slot 1, the promise in 4. */
    private static TokenHeart begun() {
        TokenHeart x = new TokenHeart();
        int[] kinds = {Due.GATE, Due.BOX, Due.PAGE, Due.PROMISE};
        for (int i = 0; i < 4; i++) {
            x.act(0, Due.MAKE, 0, Due.bc(kinds[i], 1 + i));
        }
        x.act(0, Due.PUT, 1, Due.bc(2, 1));
        x.act(0, Due.PUT, 4, Due.bc(2, 4));
        return x;
    }

    private static void drop(TokenHeart x, int slot) {
        due.is("drop " + slot, x.act(0, Due.DROP, slot, 0), 1);
    }

    /** STATE, PLACE, ACC, GATE, who serves it, whom it serves: as many as are told. */
    private static void state(TokenHeart x, int r, String when, int... want) {
        int[] what = {1, 2, 3, 5, 6, 7};
        for (int i = 0; i < want.length; i++) {
            due.is(when + ": look(" + r + ", " + what[i] + ")", x.look(r, what[i]), want[i]);
        }
    }

    /** A tick for each of these runners, by a row. */
    private static void turns(TokenHeart x, int... order) {
        for (int r : order) {
            Due.rows(x, 2, r);
            x.time(2);
            int before = x.rule(1);
            x.run(1);
            x.rule(before);
        }
    }

    // 'a PROGRAM (a row of STEPS, 40 at most)'; 'what is left over does not count; the first 40'
    private static void programs() {
        for (int size = 0; size <= 160; size++) {
            TokenHeart x = new TokenHeart();
            x.sheet(0, size);
            x.runner(0, 0);
            due.is("steps of " + size, x.look(0, 8), size / 4);
            due.is("first of the last step", x.step(0, size / 4 - 1, 0), 0);
            due.is("BEYOND if there is none", x.status(-3), size < 4 ? 1 : 0);
            due.is("behind the last", x.step(0, size / 4, 0), 0);
            due.is("BEYOND", x.status(-3), size < 4 ? 2 : 1);
        }
    }

    private static void emptyProgram() {
        TokenHeart x = new TokenHeart();
        x.sheet(0, 0);
        due.is("a runner of no steps", x.runner(0, 0), 0);
        due.is("is READY", x.look(0, 1), 0);
        due.is("a PLACE without a STEP", x.run(1), 1);
        state(x, 0, "a FAULT", 3, 0, 0);
        due.is("faults", x.count(10), 1);
        due.is("chosen last", x.count(9), 0);
    }

    // 'Sums wrap'
    private static void sumsWrap() {
        int max = Integer.MAX_VALUE;
        int min = Integer.MIN_VALUE;
        int[][] sums = {{max, 1, min}, {min, -1, max}, {max, max, -2}, {min, min, 0}, {-1, 1, 0}, {5, min, min + 5}};
        for (int[] s : sums) {
            TokenHeart x = new TokenHeart();
            Due.runner(x, 0, SET, s[0], 0, 0, ADD, s[1], 0, 0);
            x.run(2);
            state(x, 0, s[0] + " and " + s[1], 0, 2, s[2]);
        }
    }

    // 'if ACC is not 0 PLACE is a'; 'Behind a STEP PLACE is one more (but a JUMP that is done)'
    private static void jumps() {
        int[] accs = {0, 1, -1, Integer.MIN_VALUE};
        int[] places = {0, 1, 39, 40, 41, -1, Integer.MAX_VALUE, Integer.MIN_VALUE};
        for (int acc : accs) {
            for (int place : places) {
                TokenHeart x = new TokenHeart();
                Due.runner(x, 0, JUMP, place, 99, -99, SET, 6, 0, 0);
                x.tell(0, acc);
                due.is("jump", x.run(1), 1);
                state(x, 0, "JUMP " + place + " by " + acc, 0, acc == 0 ? 1 : place, acc);
                due.is("no FAULT", x.count(10), 0);
                x.run(1);
                boolean isStep = acc == 0 || place == 0 || place == 1;
                due.is("a FAULT if there is no STEP", x.count(10), isStep ? 0 : 1);
            }
        }
    }

    // 'another number for what, too'
    private static void otherNumbers() {
        int[] none = {-1, 20, 21, 100, Integer.MIN_VALUE, Integer.MAX_VALUE};
        for (int what : none) {
            TokenHeart x = begun();
            Due.runner(x, 0, SET, 4, 0, 0, what, 3, 3, 9);
            x.run(2);
            state(x, 0, "step " + what, 3, 1, 4, -1, -1, -1);
            due.is("a FAULT", x.count(10), 1);
            due.is("nothing else", x.count(2), 7);
        }
    }

    // 'a PLACE without a STEP'
    private static void badPlaces() {
        int[] places = {1, 2, 39, 40};
        for (int place : places) {
            TokenHeart x = new TokenHeart();
            Due.runner(x, 0, STOP, 0, 0, 0);
            x.run(1);
            due.is("stopped by STOP: one more", x.look(0, 2), 1);
            due.is("resume at " + place, x.resume(0, place), 1);
            due.is("it does a STEP", x.run(1), 1);
            state(x, 0, "that is a FAULT", 3, place, 0);
            due.is("FAULTS", x.count(10), 1);
            due.is("then nobody does", x.run(1), 0);
        }
    }

    // 'nothing else is changed'
    private static void faultChangesNothing() {
        int[][] bad = {{4, 9, 0, 0}, {4, 2, 0, 0}, {5, 9, 0, 0}, {6, 3, 0, 3}, {7, 0, 1, 9}, {8, 3, 0, -1},
            {9, 0, 0, 9}, {9, 0, 962, 9}, {10, 0, 6, 9}, {10, 3, 0, 9}, {11, 3, 0, 0}, {12, 3, 3, 0}, {13, 9, 0, 0},
            {14, 9, 0, 0}, {14, 10, 0, 0}, {14, -1, 0, 0}, {18, 3, 1, 9}, {18, 0, 2, 9}, {19, 1, 3, 9}, {19, 9, 2, 9},
            {CALL, 3, -1, -1}, {CALL, 1, 9, -1}, {CALL, 1, 0, -1}, {CALL, 1, -2, -1}, {CALL, 1, -1, 10},
            {CALL, -1, -1, -1}, {WAIT, 3, -1, -1}, {WAIT, 1, 10, -1}, {WAIT, 1, -1, -2}, {WAIT, 10, -1, -1},
            {ANSWER, 0, -1, -1}};
        for (int[] s : bad) {
            TokenHeart x = begun();
            Due.runner(x, 0, SET, 9, 0, 0, s[0], s[1], s[2], s[3]);
            x.run(1);
            int room = x.token(0, 3);
            due.is("a FAULT is a STEP in what run() tells", x.run(1), 1);
            String text = "step " + s[0] + ", " + s[1] + ", " + s[2] + ", " + s[3];
            state(x, 0, text, 3, 1, 9, -1, -1, -1);
            due.is(text + ": FAULTS", x.count(10), 1);
            due.is(text + ": tokens", x.count(2), 7);
            due.is(text + ": things", x.count(1), 5);
            due.is(text + ": room", x.token(0, 3), room);
        }
    }

    // 'if it has a KEEPER, at which a RUNNER WAITS (the least): that one's ACC is 100 and its number'
    private static void keepers() {
        TokenHeart x = begun();
        int f = Due.runner(x, 0, -1, 0, 0, 0);
        x.keeper(f, 1);
        x.run(1);
        state(x, f, "nobody waits there", 3, 0, 0);
        due.is("it has a keeper still", x.look(f, 4), 1);
        int high = Due.runner(x, 0, WAIT, 1, -1, -1, WAIT, 1, -1, -1);
        int low = Due.runner(x, 0, WAIT, 4, -1, -1);
        int higher = Due.runner(x, 2, WAIT, 1, -1, -1);
        x.run(3);
        x.resume(f, 0);
        x.run(1);
        state(x, high, "the least that waits there", 0, 1, 100, -1, -1, -1);
        state(x, low, "one at another gate", 1, 0, 0, 4, -1, -1);
        state(x, higher, "another one waits", 1, 0, 0, 1, -1, -1);
        x.resume(f, 0);
        turns(x, f);
        state(x, higher, "the next of them", 0, 1, 100, -1, -1, -1);
        state(x, f, "stopped", 3, 0, 0);
        due.is("FAULTS", x.count(10), 3);
        x.keeper(f, -1);
        turns(x, high);
        state(x, high, "it waits again", 1, 1, 100, 1, -1, -1);
        x.resume(f, 0);
        turns(x, f);
        state(x, high, "nobody's keeper", 1, 1, 100, 1, -1, -1);
    }

    /** '100 and its number', for all numbers; STOP is no FAULT. */
    private static void keeperOfAll() {
        for (int f = 0; f < 8; f++) {
            TokenHeart x = begun();
            int w = f == 0 ? 1 : 0;
            for (int r = 0; r < 8; r++) {
                Due.runner(x, 0, r == w ? WAIT : r == f ? 99 : STOP, 1, -1, -1);
                x.keeper(r, 1);
            }
            turns(x, w);
            for (int r = 0; r < 8; r++) {
                if (r != w && r != f) {
                    turns(x, r);
                }
            }
            state(x, w, "STOP is told to no keeper", 1, 0, 0, 1);
            turns(x, f);
            state(x, w, "the FAULT of " + f + " is", 0, 1, 100 + f, -1);
        }
    }

    /** The one that is served is left alone, and the keeper is told. */
    private static void keeperOfOneThatServes() {
        TokenHeart x = begun();
        int server = Due.runner(x, 0, WAIT, 1, -1, -1, 99, 0, 0, 0);
        int caller = Due.runner(x, 0, CALL, 1, -1, -1);
        int keeper = Due.runner(x, 0, WAIT, 4, -1, -1);
        x.keeper(server, 4);
        x.run(3);
        x.run(1);
        state(x, server, "it is stopped", 3, 1, 0, -1, -1, -1);
        state(x, caller, "left alone", 0, 1, -1, -1, -1, -1);
        state(x, keeper, "the keeper is told", 0, 1, 100, -1, -1, -1);
    }

    /** The keeper's gate is the one at which its CALL is a FAULT. */
    private static void keepersAtTheSameGate() {
        TokenHeart x = begun();
        int w = Due.runner(x, 0, WAIT, 1, -1, -1);
        int c = Due.runner(x, 0, CALL, 1, 3, -1);
        x.keeper(c, 1);
        x.run(2);
        state(x, w, "it is told of the FAULT", 0, 1, 101, -1, -1, -1);
        state(x, c, "no CALL", 3, 0, 0, -1, -1, -1);
    }

    // 'One that STOPS (also by STEP 0), or is GONE, while it serves another one: that one's ACC is -1'
    private static void stopsWhileItServes() {
        int[][] ends = {{STOP, 0}, {99, 1}, {4, 1}, {WAIT, 1}, {JUMP, 0}};
        for (int[] end : ends) {
            TokenHeart x = begun();
            int server = Due.runner(x, 0, WAIT, 1, -1, -1, end[0], 9, -1, -1);
            int caller = Due.runner(x, 0, CALL, 1, -1, -1, SET, 5, 0, 0);
            x.tell(caller, 3);
            x.run(3);
            if (end[0] == JUMP) {
                state(x, server, "it serves still", 0, 9, 3, -1, -1, caller);
                turns(x, server);
            }
            due.is("by step " + end[0] + ": FAULTS", x.count(10), end[0] == STOP ? 0 : 1);
            state(x, caller, "by step " + end[0], 0, 1, -1, -1, -1, -1);
            state(x, server, "by step " + end[0], 3, end[0] == STOP ? 2 : end[0] == JUMP ? 9 : 1, 3, -1, -1, -1);
        }
        // the one that is left alone goes on serving another one
        TokenHeart x = begun();
        int mid = Due.runner(x, 0, WAIT, 1, -1, -1, CALL, 4, -1, -1, ANSWER, 0, -1, -1);
        int first = Due.runner(x, 0, CALL, 1, -1, -1);
        int last = Due.runner(x, 0, WAIT, 4, -1, -1, STOP, 0, 0, 0);
        turns(x, last, mid, first, mid);
        state(x, mid, "it calls, and serves", 2, 1, 0, 4, last, first);
        turns(x, last);
        state(x, mid, "left alone, it serves still", 0, 2, -1, -1, -1, first);
        state(x, first, "it calls", 2, 0, 0, 1, mid, -1);
        turns(x, mid);
        state(x, first, "it is answered by that", 0, 1, -1, -1, -1, -1);
    }

    // 'Who serves one that is STOPPED or GONE serves nobody from then on'
    private static void whoWasServedIsStopped() {
        TokenHeart x = begun();
        due.is("another way to the gate", Due.read(x, "gets 2 1 rw"), 1);
        int server = Due.runner(x, 0, WAIT, 1, -1, -1, SET, 7, 0, 0, ANSWER, 0, -1, -1);
        int caller = Due.runner(x, 2, CALL, 0, -1, -1);
        x.run(2);
        state(x, caller, "it calls", 2, 0, 0, 1, server, -1);
        drop(x, 2);
        state(x, caller, "its box is gone", 4, 0, 0, -1, -1, -1);
        state(x, server, "it serves nobody", 0, 1, 0, -1, -1, -1);
        x.run(2);
        state(x, server, "so its ANSWER is a FAULT", 3, 2, 7, -1, -1, -1);

        x = begun();
        server = Due.runner(x, 0, WAIT, 1, -1, -1, WAIT, 4, -1, -1);
        caller = Due.runner(x, 0, CALL, 1, -1, -1);
        x.run(2);
        drop(x, 1);
        state(x, caller, "its gate is gone", 3, 0, 0, -1, -1, -1);
        x.run(1);
        state(x, server, "so it may WAIT", 1, 1, 0, 4, -1, -1);
    }

    // 'A STEP behind which the RUNNER STOPS by STOP, or is GONE, leaves PLACE one more'
    private static void goneWithItsPlace() {
        TokenHeart x = begun();
        Due.read(x, "gets 2 2 rwlt");
        drop(x, 2);
        int other = Due.runner(x, 2, SET, 5, 0, 0);
        int r = Due.runner(x, 2, SET, 8, 0, 0, Due.DROP, 0, 0, 0);
        turns(x, r);
        due.is("one STEP of two", x.run(1), 1);
        state(x, other, "that", 0, 1, 5);
        x.run(1);
        state(x, r, "it is GONE by its own STEP", 4, 2, 8);
        state(x, other, "and the other one", 4, 1, 5);
        due.is("no FAULT", x.count(10), 0);
        due.is("nobody", x.run(1), 0);
    }

    // '(b, c of these three are -1 .. 9, else a FAULT)'; 'are looked at, used or not'
    private static void callEdges() {
        int[] edges = {-2, -1, 0, 8, 9, 10, Integer.MIN_VALUE, Integer.MAX_VALUE};
        for (int what = CALL; what <= ANSWER; what++) {
            for (int b : edges) {
                for (int c : edges) {
                    TokenHeart x = begun();
                    x.act(0, Due.LEND, 3, Due.bc(0, 9));
                    x.act(0, Due.LEND, 3, Due.bc(0, 8));
                    int r = what == ANSWER ? serving(x, b, c) : Due.runner(x, 0, what, 1, b, c);
                    turns(x, r);
                    boolean told = b >= -1 && b <= 9 && c >= -1 && c <= 9;
                    boolean is = told && (what == WAIT || b != 0);
                    due.is(what + " with " + b + ", " + c, x.count(10), is ? 0 : 1);
                }
            }
        }
    }

    /** One that serves, and is at its ANSWER: to slot 7 of another one in its box. */
    private static int serving(TokenHeart x, int b, int c) {
        int r = Due.runner(x, 0, WAIT, 1, -1, -1, ANSWER, 99, b, c);
        int caller = Due.runner(x, 0, CALL, 1, -1, 7);
        turns(x, r, caller);
        due.is("it serves", x.look(r, 7), caller);
        return r;
    }

    // 'If a RUNNER WAITS there (the least)'; 'The SLOT .. is looked at only if something is LENT'
    private static void callTakenByTheLeast() {
        int[][] tries = {{-1, -1, 1}, {-1, 1, 1}, {3, -1, 0}, {3, 1, 0}, {3, 0, 1}, {3, 9, 1}};
        for (int[] t : tries) {
            TokenHeart x = begun();
            int c = Due.runner(x, 0, CALL, 1, t[0], -1);
            int second = Due.runner(x, 2, WAIT, 1, 5, -1);
            int first = Due.runner(x, 2, WAIT, 1, t[1], -1);
            turns(x, first);
            int third = Due.runner(x, 2, WAIT, 1, 6, -1);
            turns(x, third, c);
            String text = "CALL with " + t[0] + " to slot " + t[1];
            state(x, first, text, t[2] == 1 ? 0 : 1, t[2], 0, t[2] == 1 ? -1 : 1, -1, t[2] == 1 ? c : -1);
            state(x, c, text, t[2] == 1 ? 2 : 3, 0, 0, t[2] == 1 ? 1 : -1, t[2] == 1 ? first : -1, -1);
            state(x, third, "the other waits", 1, 0, 0, 1);
            state(x, second, "this didn't yet", 0, 0, 0, -1);
            due.is(text + ": lent", x.count(2), t[2] == 1 && t[0] >= 0 ? 8 : 7);
        }
    }

    // 'What a CALL lends is what is in SLOT b as it is TAKEN'
    private static void callLendsWhatIsThereNow() {
        TokenHeart x = begun();
        int c = Due.runner(x, 0, CALL, 1, 3, -1);
        int w = Due.runner(x, 2, WAIT, 1, 9, -1);
        turns(x, c);
        drop(x, 3);
        x.act(0, Due.NARROW, 2, Due.bc(4, 3));
        turns(x, w);
        due.is("another thing", x.token(x.slot(2, 9), 1), 2);
        due.is("its RIGHTS", x.token(x.slot(2, 9), 2), 4);
        due.is("its LENDER", x.token(x.slot(2, 9), 4), x.slot(0, 3));
        int[] bad = {0, 1, 2, 3, 4};
        for (int how : bad) {
            x = begun();
            c = Due.runner(x, 0, CALL, 1, 3, -1);
            w = Due.runner(x, 2, WAIT, 1, 9, -1);
            turns(x, c);
            if (how == 0) {
                drop(x, 3);
            } else if (how == 1) {
                x.act(0, Due.SEAL, 3, Due.bc(3, 0));
            } else if (how == 2) {
                x.act(0, Due.TILL, 3, Due.bc(0, 0));
            } else if (how == 3) {
                drop(x, 3);
                x.act(0, Due.SPLIT, 0, Due.bc(5, 3));
            } else {
                drop(x, 3);
                x.act(0, Due.NARROW, 2, Due.bc(11, 3));
            }
            turns(x, w);
            state(x, c, "a FAULT of the caller " + how, 3, 0, 0, -1, -1, -1);
            state(x, w, "it waits " + how, 1, 0, 0, 1, -1, -1);
            due.is("FAULTS", x.count(10), 1);
        }
    }

    // 'the one that has CALLED longest'; 'a FAULT of the caller, and the next one is looked at'
    private static void nextCallIsLookedAt() {
        TokenHeart x = begun();
        int a = Due.runner(x, 0, CALL, 1, 3, -1);
        int b = Due.runner(x, 0, CALL, 1, 3, -1);
        int c = Due.runner(x, 0, CALL, 1, -1, -1);
        int d = Due.runner(x, 0, CALL, 1, 2, -1);
        int w = Due.runner(x, 2, WAIT, 1, 5, -1);
        int v = Due.runner(x, 2, WAIT, 1, -1, -1);
        turns(x, b, d, a, c);
        drop(x, 3);
        turns(x, w);
        state(x, b, "the first: a FAULT", 3, 0, 0, -1, -1, -1);
        state(x, w, "the next is taken", 0, 1, 0, -1, -1, d);
        state(x, a, "this isn't looked at", 2, 0, 0, 1, -1, -1);
        turns(x, v);
        state(x, a, "now it is", 3, 0, 0, -1, -1, -1);
        state(x, v, "the last is taken", 0, 1, 0, -1, -1, c);
        due.is("FAULTS", x.count(10), 2);

        // none is left: it waits
        x = begun();
        for (int i = 0; i < 6; i++) {
            Due.runner(x, 0, CALL, 1, 3, -1);
        }
        w = Due.runner(x, 2, WAIT, 1, -1, -1);
        x.run(7);
        for (int i = 0; i < 6; i++) {
            state(x, i, "none may come", 3, 0, 0, -1, -1, -1);
        }
        state(x, w, "it waits", 1, 0, 0, 1, -1, -1);
        due.is("FAULTS", x.count(10), 6);
    }

    // 'As a RUNNER does its own WAIT, it does not WAIT yet for a KEEPER'
    private static void ownWaitIsNoWait() {
        TokenHeart x = begun();
        int c = Due.runner(x, 0, CALL, 1, 3, -1);
        int w = Due.runner(x, 0, WAIT, 1, -1, -1);
        int k = Due.runner(x, 0, WAIT, 4, -1, -1);
        x.keeper(c, 1);
        turns(x, c, w);
        state(x, w, "it wasn't told", 1, 0, 0, 1, -1, -1);

        // another one, that waits at the keeper, is told
        x = begun();
        c = Due.runner(x, 0, CALL, 1, 3, -1);
        w = Due.runner(x, 0, WAIT, 1, -1, -1);
        k = Due.runner(x, 0, WAIT, 4, -1, -1);
        x.keeper(c, 4);
        turns(x, k, c, w);
        state(x, k, "it was told", 0, 1, 100, -1, -1, -1);
        state(x, w, "it waits", 1, 0, 0, 1, -1, -1);
    }

    // 'if that is -1, or not empty: a FAULT of the one that answers'
    private static void answerEdges() {
        int[][] tries = {{-1, -1, 1}, {-1, 3, 1}, {1, -1, 0}, {1, 3, 0}, {1, 0, 0}, {1, 9, 1}, {9, 9, 0}, {4, 5, 1}};
        for (int[] t : tries) {
            TokenHeart x = begun();
            int s = Due.runner(x, 2, WAIT, 1, -1, -1, SET, 6, 0, 0, ANSWER, 0, t[0], -1);
            int c = Due.runner(x, 0, CALL, 1, -1, t[1], SET, 1, 0, 0);
            turns(x, s, c, s, s);
            String text = "ANSWER with " + t[0] + " to " + t[1];
            state(x, c, text, 0, 1, t[2] == 1 ? 6 : -1, -1, -1, -1);
            state(x, s, text, t[2] == 1 ? 0 : 3, t[2] == 1 ? 3 : 2, 6, -1, -1, -1);
            due.is(text + ": FAULTS", x.count(10), 1 - t[2]);
            due.is(text + ": lent", x.count(2), t[2] == 1 && t[0] >= 0 ? 8 : 7);
        }
        // 'answer once': a second one is a FAULT
        TokenHeart x = begun();
        int s = Due.runner(x, 2, WAIT, 1, -1, -1, ANSWER, 0, -1, -1, ANSWER, 0, -1, -1);
        int c = Due.runner(x, 0, CALL, 1, -1, -1, CALL, 1, -1, -1);
        turns(x, s, c, s);
        state(x, c, "answered", 0, 1);
        turns(x, c, s);
        state(x, s, "a second ANSWER", 3, 2);
        state(x, c, "it calls", 2, 1, 0, 1, -1, -1);
        // room can't be lent
        x = begun();
        s = Due.runner(x, 0, WAIT, 1, -1, -1, ANSWER, 0, 0, -1);
        c = Due.runner(x, 0, CALL, 1, -1, 9);
        turns(x, s, c, s);
        state(x, s, "ANSWER with room", 3, 1);
    }

    // 'if the CALL was at a PROMISE, that is gone'; 'with the first ANSWER through it'
    private static void promiseEdges() {
        TokenHeart x = begun();
        int a = Due.runner(x, 0, WAIT, 4, -1, -1, ANSWER, 0, 3, -1, ANSWER, 0, -1, -1);
        int b = Due.runner(x, 2, WAIT, 4, -1, -1, ANSWER, 0, -1, -1);
        int c = Due.runner(x, 0, CALL, 4, -1, 8);
        int d = Due.runner(x, 0, CALL, 4, -1, -1);
        int e = Due.runner(x, 0, WAIT, 4, -1, -1);
        turns(x, a, b, c, d, e);
        state(x, b, "two serve through it", 0, 1, 0, -1, -1, d);
        state(x, e, "one waits", 1, 0, 0, 4, -1, -1);
        turns(x, a);
        state(x, c, "the first is answered", 0, 1, 0, -1, -1, -1);
        due.is("with a token", x.token(x.slot(0, 8), 1), 3);
        due.is("the promise is gone", x.thing(4, 0), -3);
        due.is("and its tokens", x.slot(0, 4) + x.slot(2, 4), -2);
        state(x, a, "it has answered", 0, 2, 0, -1, -1, -1);
        state(x, d, "the other is STOPPED", 3, 0, 0, -1, -1, -1);
        state(x, b, "who served it serves nobody", 0, 1, 0, -1, -1, -1);
        state(x, e, "who waits is STOPPED", 3, 0, 0, -1, -1, -1);
        due.is("no FAULT", x.count(10), 0);
        due.is("its room", x.token(0, 3), 960 - 55);

        // the answer lends the promise itself: that goes with it
        x = begun();
        a = Due.runner(x, 0, WAIT, 4, -1, -1, ANSWER, 0, 4, -1);
        c = Due.runner(x, 0, CALL, 4, -1, 8);
        turns(x, a, c, a);
        state(x, c, "it is answered", 0, 1, 0, -1, -1, -1);
        due.is("what came is gone", x.slot(0, 8), -1);
        // a FAULT of the one that answers is no ANSWER
        x = begun();
        a = Due.runner(x, 0, WAIT, 4, -1, -1, ANSWER, 0, 9, -1);
        c = Due.runner(x, 0, CALL, 4, -1, 8);
        turns(x, a, c, a);
        due.is("no answer: the promise is there", x.thing(4, 0), Due.PROMISE);
        // nor is it one that stops
        x = begun();
        a = Due.runner(x, 0, WAIT, 4, -1, -1, STOP, 0, 0, 0);
        c = Due.runner(x, 0, CALL, 4, -1, 8);
        turns(x, a, c, a);
        state(x, c, "left alone", 0, 1, -1);
        due.is("the promise is there", x.thing(4, 0), Due.PROMISE);
    }

    // 'RUNNERS that WAIT or CALL there (served, too) are STOPPED'; 'one that is STOPPED so has no FAULT'
    private static void gateThatGoes() {
        TokenHeart x = begun();
        int s = Due.runner(x, 0, WAIT, 1, -1, -1, SET, 1, 0, 0);
        int c = Due.runner(x, 0, CALL, 1, -1, -1);
        int d = Due.runner(x, 0, CALL, 1, -1, -1);
        int other = Due.runner(x, 0, WAIT, 4, -1, -1);
        int k = Due.runner(x, 0, SET, 1, 0, 0);
        for (int r = 0; r < 5; r++) {
            x.keeper(r, 1);
        }
        x.keeper(d, 4);
        turns(x, s, c, d, other);
        drop(x, 1);
        state(x, c, "served", 3, 0, 0, -1, -1, -1);
        state(x, d, "not served", 3, 0, 0, -1, -1, -1);
        state(x, s, "it serves nobody", 0, 1, 0, -1, -1, -1);
        state(x, other, "no keeper was told", 1, 0, 0, 4, -1, -1);
        state(x, k, "another one", 0, 0, 0);
        due.is("no FAULT", x.count(10), 0);
        int[] keepers = {-1, -1, 4, -1, -1};
        for (int r = 0; r < 5; r++) {
            due.is("keeper of " + r, x.look(r, 4), keepers[r]);
        }
        x.act(0, Due.MAKE, 0, Due.bc(Due.GATE, 1));
        due.is("another gate of its number", x.thing(1, 0), Due.GATE);
        due.is("is no keeper", x.look(k, 4), -1);
        due.is("it may go on", x.resume(c, 0), 1);
        turns(x, c);
        state(x, c, "and call there", 2, 0, 0, 1, -1, -1);
    }

    // 'RUNNERS of a GATE or BOX that goes are looked at one by one, by numbers'
    private static void boxThatGoes() {
        TokenHeart x = begun();
        int s = Due.runner(x, 2, WAIT, 1, -1, -1);
        int c = Due.runner(x, 2, CALL, 1, -1, -1);
        turns(x, s, c);
        drop(x, 2);
        state(x, s, "the one that serves, first", 4, 1, 0, -1, -1, -1);
        state(x, c, "it was left alone, and is GONE then", 4, 1, -1, -1, -1, -1);

        x = begun();
        c = Due.runner(x, 2, CALL, 1, -1, -1);
        s = Due.runner(x, 2, WAIT, 1, -1, -1);
        turns(x, s, c);
        drop(x, 2);
        state(x, c, "the one that calls, first", 4, 0, 0, -1, -1, -1);
        state(x, s, "it served nobody then", 4, 1, 0, -1, -1, -1);
        due.is("no FAULT", x.count(10), 0);

        // two at one gate, one of them serves the other
        x = begun();
        int low = Due.runner(x, 0, WAIT, 1, -1, -1, CALL, 1, -1, -1);
        int high = Due.runner(x, 0, CALL, 1, -1, -1);
        turns(x, low, high, low);
        state(x, low, "it serves, and calls", 2, 1, 0, 1, -1, high);
        drop(x, 1);
        state(x, low, "STOPPED first", 3, 1, 0, -1, -1, -1);
        state(x, high, "so this was left alone, and is at no gate", 0, 1, -1, -1, -1, -1);
    }

    /**
     * Box 1 has the last tokens of what is told: one of runner c, that calls at gate cs, one of s, that
     * serves it and calls at gate ss. Box 2, if box 1 has it, may have some, too.
     */
    private static TokenHeart twoCalls(int c, int s, int cs, int ss, String where) {
        TokenHeart x = new TokenHeart();
        int[] kinds = {Due.BOX, Due.BOX, Due.GATE, Due.GATE, Due.GATE};
        for (int i = 0; i < 5; i++) {
            x.act(0, Due.MAKE, 0, Due.bc(kinds[i], 1 + i));
        }
        due.is("the last tokens", Due.read(x, where) > 0 ? 1 : 0, 1);
        for (int r = 0; r < 2; r++) {
            if (r == c) {
                Due.runner(x, 0, CALL, cs, -1, -1);
            } else {
                Due.runner(x, 0, WAIT, cs, -1, -1, CALL, ss, -1, -1);
            }
        }
        turns(x, s, c, s);
        state(x, s, "it serves, and calls", 2, 1, 0, ss, -1, c);
        for (int slot = 2; slot <= 5; slot++) {
            drop(x, slot);
        }
        drop(x, 1);
        due.is("all are gone", x.count(1), 1);
        due.is("all room is back", x.token(0, 3), 960);
        due.is("no FAULT", x.count(10), 0);
        return x;
    }

    // 'then THINGS by numbers'
    private static void thingsByNumbers() {
        String all = "gets 1 2 t;gets 1 3 t;gets 1 4 t;gets 1 5 t";
        for (int c = 0; c < 2; c++) {
            int s = 1 - c;
            TokenHeart x = twoCalls(c, s, 3, 5, all);
            state(x, c, "the gate of the one that is served first", 3, 0, 0, -1, -1, -1);
            state(x, s, "then that of the one that serves", 3, 1, 0, -1, -1, -1);
            x = twoCalls(c, s, 5, 3, all);
            state(x, s, "the gate of the one that serves first", 3, 1, 0, -1, -1, -1);
            state(x, c, "so the other is left alone, at no gate", 0, 1, -1, -1, -1, -1);
        }
    }

    // 'TOKENS of a BOX that is gone go behind all THINGS of that pass'
    private static void tablesBehindThings() {
        for (int c = 0; c < 2; c++) {
            int s = 1 - c;
            // gate 3 is in box 2, that goes in the pass of gates 4 and 5: it goes behind them
            TokenHeart x = twoCalls(c, s, 5, 3, "gets 1 2 t;gets 2 3 t;gets 1 4 t;gets 1 5 t");
            state(x, c, "gate 5 ahead of gate 3", 3, 0, 0, -1, -1, -1);
            state(x, s, "gate 3 behind gate 5", 3, 1, 0, -1, -1, -1);
            x = twoCalls(c, s, 3, 5, "gets 1 2 t;gets 2 3 t;gets 1 4 t;gets 1 5 t");
            state(x, s, "gate 5 ahead of gate 3", 3, 1, 0, -1, -1, -1);
            state(x, c, "so the other is left alone", 0, 1, -1, -1, -1, -1);
            x = twoCalls(c, s, 3, 5, "gets 1 2 t;gets 2 3 t;gets 1 4 t;gets 2 5 t");
            state(x, c, "both in box 2: by numbers again", 3, 0, 0, -1, -1, -1);
        }
    }

    // 'By .. CALL, ANSWER the last TICK comes with what is LENT'
    private static void lastTickOfCalls() {
        for (int later = 0; later < 2; later++) {
            TokenHeart x = begun();
            int c = Due.runner(x, 0, CALL, 1, 3, 8);
            int w = Due.runner(x, 2, WAIT, 1, 5, -1, ANSWER, 0, 5, -1);
            x.act(0, Due.TILL, 3, Due.bc(60, 0));
            turns(x, later == 1 ? c : w, later == 1 ? w : c);
            due.is("by the CALL", x.token(x.slot(2, 5), 8), 60);
            due.is("a LENT one", x.token(x.slot(2, 5), 0), 1);
            x.act(2, Due.TILL, 5, Due.bc(40, 0));
            turns(x, w);
            due.is("by the ANSWER", x.token(x.slot(0, 8), 8), 40);
            due.is("a LENT one", x.token(x.slot(0, 8), 0), 1);
            due.is("the first has its own", x.token(x.slot(0, 3), 8), 60);
            // at its last TICK it may be lent still, behind it no more
            for (int over = 0; over < 2; over++) {
                x = begun();
                c = Due.runner(x, 0, CALL, 1, 3, 8);
                w = Due.runner(x, 2, WAIT, 1, 5, -1);
                x.act(0, Due.TILL, 3, Due.bc(1 - over, 0));
                turns(x, later == 1 ? c : w, later == 1 ? w : c);
                due.is("as it is TAKEN", x.look(c, 1), over == 1 ? 3 : 2);
            }
        }
    }

    // 'The SLOT into which something comes is looked at only if something is LENT'
    private static void slotOnlyIfLent() {
        int[] slots = {-1, 0, 1, 4, 9};
        for (int slot : slots) {
            for (int later = 0; later < 2; later++) {
                TokenHeart x = begun();
                int c = Due.runner(x, 0, CALL, 1, -1, slot);
                int w = Due.runner(x, 2, WAIT, 1, slot, -1, ANSWER, 0, -1, -1);
                turns(x, later == 1 ? c : w, later == 1 ? w : c);
                state(x, w, "a CALL with nothing, to slot " + slot, 0, 1, 0, -1, -1, c);
                turns(x, w);
                state(x, c, "an ANSWER with nothing, to slot " + slot, 0, 1, 0, -1, -1, -1);
                due.is("no FAULT", x.count(10), 0);
            }
        }
    }

    // 'its SLOT and number are not free for that; one of a CALL that is a FAULT stays'
    private static void onceIsThereTillDone() {
        TokenHeart x = begun();
        int w = Due.runner(x, 0, WAIT, 1, 7, -1);
        turns(x, w);
        x.act(0, Due.ONCE, 1, Due.bc(0, 7));
        int c = Due.runner(x, 0, CALL, 7, 3, -1);
        turns(x, c);
        state(x, c, "its slot isn't free", 3, 0, 0, -1, -1, -1);
        due.is("it stays", x.token(x.slot(0, 7), 0), 3);
        x.act(0, Due.LEND, 1, Due.bc(0, 8));
        int d = Due.runner(x, 0, CALL, 7, -1, 7);
        turns(x, d);
        state(x, d, "nothing is lent", 2, 0, 0, 1, w, -1);
        due.is("it is used up", x.slot(0, 7), -1);
        // its own number: the only one that could become free
        x = begun();
        x.act(0, Due.ONCE, 2, Due.bc(0, 9));
        for (int box = 0; box <= 2; box += 2) {
            for (int slot = 0; slot < 10; slot++) {
                if (x.slot(box, slot) == -1 && 10 * box + slot != 29) {
                    due.is("fill", Due.read(x, "gets " + box + " 3 l"), 1);
                }
            }
        }
        x.act(0, Due.DROP, 8, 0);
        for (int many = x.count(2); many < 120;) {
            x.act(0, Due.MAKE, 0, Due.bc(Due.BOX, 8));
            int box = x.token(x.slot(0, 8), 1);
            due.is("it keeps itself", Due.read(x, "gets " + box + " " + box + " t"), 1);
            drop(x, 8);
            for (many = x.count(2); many < 120 && x.slot(box, 9) == -1; many++) {
                due.is("fill", Due.read(x, "gets " + box + " 3 l"), 1);
            }
        }
        due.is("tokens", x.count(2), 120);
        due.is("PUT into a slot that is empty", x.slot(2, 9), -1);
        due.is("but no number is free", x.act(0, Due.PUT, 3, Due.bc(9, 9)), -7);
        due.is("it stays", x.token(x.slot(0, 9), 0), 3);
        x.act(0, Due.DROP, 7, 0);
        due.is("one is", x.act(0, Due.PUT, 3, Due.bc(9, 9)), 1);
        due.is("it is used up", x.slot(0, 9), -1);
    }

    // 'the READY one that comes first behind the one chosen last (round; from 0 at first)'
    private static void fairTurns() {
        for (int many = 1; many <= 8; many++) {
            TokenHeart x = new TokenHeart();
            for (int r = 0; r < many; r++) {
                Due.runner(x, 0, ADD, 1, 0, 0, ADD, 1, 0, 0, STOP, 0, 0, 0);
            }
            for (int tick = 0; tick < 3 * many; tick++) {
                due.is("somebody", x.run(1), 1);
                due.is("in turn", x.count(9), tick % many);
            }
            due.is("nobody is READY", x.run(1), 0);
            due.is("the one chosen last stays", x.count(9), many - 1);
        }
        // behind the one chosen last, though it isn't READY; a new one comes behind the others
        TokenHeart x = new TokenHeart();
        for (int r = 0; r < 4; r++) {
            Due.runner(x, 0, r == 1 ? STOP : ADD, 1, 0, 0, JUMP, 0, 0, 0);
        }
        x.run(2);
        due.is("1 stops", x.count(9), 1);
        x.run(1);
        due.is("2", x.count(9), 2);
        x.run(1);
        Due.runner(x, 0, ADD, 1, 0, 0, JUMP, 0, 0, 0);
        x.run(1);
        due.is("the new one behind 3", x.count(9), 4);
        x.run(1);
        due.is("round", x.count(9), 0);
        x.run(1);
        due.is("1 is left out", x.count(9), 2);
    }

    // 'the one that THE ROW OF TIME has at place NOW modulo its size'; 'if that isn't READY: nobody'
    private static void rowTurns() {
        for (int size = 0; size <= 18; size++) {
            TokenHeart x = new TokenHeart();
            Due.runner(x, 0, ADD, 1, 0, 0, JUMP, 0, 0, 0);
            x.tell(0, 1);
            x.rule(1);
            x.sheet(0, size);
            for (int i = 0; i < size; i++) {
                x.set(0, i, i == 3 || i == 16 ? 0 : -1);
            }
            int many = Math.min(16, size);
            due.is("time by " + size, x.time(0), many);
            due.is("size", x.count(11), many);
            for (int now = 0; now < 40; now++) {
                due.is("at " + now, x.run(1), many > 0 && now % many == 3 ? 1 : 0);
            }
        }
        int[] nobody = {-1, 1, 7, 8, 100, Integer.MIN_VALUE, Integer.MAX_VALUE};
        for (int r : nobody) {
            TokenHeart x = new TokenHeart();
            Due.runner(x, 0, ADD, 1, 0, 0);
            Due.rows(x, 0, r);
            x.time(0);
            x.rule(1);
            due.is("no runner " + r, x.run(3), 0);
            due.is("NOW goes on", x.count(0), 3);
            due.is("nobody was chosen", x.count(9), -1);
        }
    }

    // 'if that CALLS and is served, the one that serves it, and so on; if that isn't READY: nobody'
    private static void rowHandsOn() {
        TokenHeart x = begun();
        int a = Due.runner(x, 0, CALL, 1, -1, -1);
        int b = Due.runner(x, 0, WAIT, 1, -1, -1, CALL, 4, -1, -1, ANSWER, 0, -1, -1);
        int c = Due.runner(x, 0, WAIT, 4, -1, -1, CALL, 4, -1, -1);
        Due.rows(x, 0, a);
        x.time(0);
        x.rule(1);
        due.is("a calls", x.run(1), 1);
        due.is("not served: nobody", x.run(1), 0);
        turns(x, b, c);
        state(x, b, "b serves a", 0, 1, 0, -1, -1, a);
        Due.rows(x, 0, a);
        x.time(0);
        due.is("b by the time of a", x.run(1), 1);
        due.is("b", x.count(9), b);
        state(x, c, "c serves b", 0, 1, 0, -1, -1, b);
        due.is("c by the time of a", x.run(1), 1);
        due.is("c", x.count(9), c);
        state(x, c, "c calls, not served", 2, 1, 0, 4, -1, b);
        due.is("nobody by the time of a", x.run(1), 0);
        Due.rows(x, 0, b);
        x.time(0);
        due.is("nor of b", x.run(1), 0);
        due.is("one that waits has no time, either", x.count(9), c);
    }

    // 'the one chosen last is the one that did a STEP, by any RULE'
    private static void chosenLastByAnyRule() {
        TokenHeart x = new TokenHeart();
        for (int r = 0; r < 3; r++) {
            Due.runner(x, 0, ADD, 1, 0, 0, ADD, 1, 0, 0, ADD, 1, 0, 0);
        }
        turns(x, 1);
        due.is("1, by the row", x.count(9), 1);
        due.is("rule", x.count(8), 0);
        x.run(1);
        due.is("2 behind it, by fair turns", x.count(9), 2);
        turns(x, 2, -1);
        due.is("a tick of nobody changes nothing", x.count(9), 2);
        x.run(1);
        due.is("0 behind it", x.count(9), 0);
        TokenHeart y = begun();
        Due.runner(y, 0, STOP, 0, 0, 0);
        Due.runner(y, 0, CALL, 1, -1, -1);
        Due.runner(y, 0, WAIT, 1, -1, -1, ADD, 1, 0, 0);
        turns(y, 1, 2);
        turns(y, 1);
        due.is("the one that did it, not the one of the row", y.count(9), 2);
    }

    // 'NOW is 1 more (0 at first; 9999 at most)'
    private static void lastNow() {
        TokenHeart x = new TokenHeart();
        due.is("0 at first", x.count(0), 0);
        Due.runner(x, 0, ADD, 1, 0, 0, JUMP, 0, 0, 0);
        x.act(0, Due.MAKE, 0, Due.bc(Due.CLOCK, 1));
        for (int i = 0; i < 49; i++) {
            due.is("200", x.run(200), 200);
        }
        due.is("FULL", x.run(200), -8);
        due.is("nothing was done", x.count(0), 9800);
        due.is("the rest", x.run(199), 199);
        due.is("the last", x.load(0, 1), 9999);
        due.is("FULL", x.run(1), -8);
        due.is("late", x.late(0), 0);
        x.lay(1);
        due.is("judge", x.judge(), -8);
        due.is("acc", x.look(0, 3), 5000);
        due.is("image", x.image(), 9999);
        due.is("status", x.status(-8), 3);
    }

    // 'k runs (2 .. 16) of n TICKS (1 .. 60)'; 'j is 0 to k - 1'
    private static void leakEdges() {
        TokenHeart x = new TokenHeart();
        x.act(0, Due.MAKE, 0, Due.bc(Due.PAGE, 1));
        Due.runner(x, 0, 5, 1, 0, 0, STOP, 0, 0, 0);
        Due.runner(x, 0, 4, 1, 0, 0, STOP, 0, 0, 0);
        for (int k = 0; k <= 18; k++) {
            boolean is = k >= 2 && k <= 16;
            due.is("k " + k, x.leak(1, 0, 100 * k + 2), is ? k : -7);
            due.is("k " + k + ", 60", x.leak(1, 0, 100 * k + 60), is ? k : -7);
            due.is("k " + k + ", 61", x.leak(1, 0, 100 * k + 61), -7);
            due.is("k " + k + ", 0", x.leak(1, 0, 100 * k), -7);
            due.is("k " + k + ", 1", x.leak(1, 0, 100 * k + 1), is ? 1 : -7);
        }
        // the numbers are 0 to k - 1: one run alone differs by what is 0, or more than 14
        x = new TokenHeart();
        x.act(0, Due.MAKE, 0, Due.bc(Due.GATE, 1));
        Due.runner(x, 0, JUMP, 2, 0, 0, STOP, 0, 0, 0, ADD, 1, 0, 0, JUMP, 2, 0, 0);
        Due.runner(x, 0, ADD, 1, 0, 0, JUMP, 0, 0, 0);
        due.is("0 is one of them", x.leak(1, 0, 260), 2);
        x = new TokenHeart();
        Due.runner(x, 0, ADD, -15, 0, 0, JUMP, 3, 0, 0, STOP, 0, 0, 0, SET, 1, 0, 0, JUMP, 3, 0, 0);
        Due.runner(x, 0, ADD, 1, 0, 0, JUMP, 0, 0, 0);
        due.is("15 isn't, of 15", x.leak(1, 0, 1512), 1);
        due.is("15 is, of 16", x.leak(1, 0, 1612), 2);
        due.is("the rule of the object stays", x.count(8), 0);
        due.is("and the acc", x.look(0, 3), 0);
    }

    // 'STATE, PLACE and ACC of another RUNNER, and what is in its BOX's SLOTS (which are empty)'
    private static void leakSees() {
        TokenHeart x = begun();
        // the other one's box: a token comes, or another one, or none
        Due.runner(x, 0, JUMP, 3, 0, 0, Due.LEND, 3, 0, 8, JUMP, 9, 0, 0, Due.LEND, 2, 0, 8);
        Due.runner(x, 0, SET, 0, 0, 0);
        due.is("which is in it isn't seen, but when", x.leak(1, 1, 205), 1);
        Due.rows(x, 2, 0);
        x.time(2);
        due.is("2 or 3 in slot 8 are alike", x.leak(1, 1, 202), 1);
        due.is("of the same tick", x.leak(1, 1, 203), 1);
        // a slot of another number is seen
        x = begun();
        Due.runner(x, 0, JUMP, 3, 0, 0, Due.LEND, 3, 0, 8, STOP, 0, 0, 0, Due.LEND, 3, 0, 9);
        Due.runner(x, 0, SET, 0, 0, 0);
        Due.rows(x, 2, 0);
        x.time(2);
        due.is("slot 8 or 9", x.leak(1, 1, 202), 2);
        due.is("not in another box", x.leak(10, 1, 202), 1);
        // seen alike in the end, but not all the time
        x = begun();
        Due.runner(x, 0, JUMP, 3, 0, 0, Due.DROP, 3, 0, 0, STOP, 0, 0, 0, ADD, 0, 0, 0, Due.DROP, 3, 0, 0);
        Due.runner(x, 0, SET, 0, 0, 0);
        Due.rows(x, 2, 0);
        x.time(2);
        due.is("one tick later", x.leak(1, 1, 203), 2);
        due.is("at first alike", x.leak(1, 1, 201), 1);
        due.is("all is as before", x.slot(0, 3) >= 0 ? 1 : 0, 1);
    }

    // 'after how many TICKS (60 at most) a RUNNER is READY'; '0: it is'; 'NONE: not in 60 TICKS'
    private static void lateEdges() {
        int[] odd = {WAIT, 1, -1, -1, ADD, -1, 0, 0, JUMP, 1, 0, 0, ANSWER, 0, -1, -1};
        int[] even = {WAIT, 1, -1, -1, ADD, 0, 0, 0, ADD, -1, 0, 0, JUMP, 2, 0, 0, ANSWER, 0, -1, -1};
        for (int n = 3; n <= 63; n++) {
            TokenHeart x = begun();
            int c = Due.runner(x, 0, CALL, 1, -1, -1);
            int s = Due.runner(x, 0, n % 2 != 0 ? odd : even);
            x.run(2);
            // two steps for each round, the ANSWER, and one ahead of all if n is even
            due.is("tell", x.tell(s, (n - 1) / 2), 1);
            due.is("it serves", x.look(s, 7), c);
            due.is("late by " + n, x.late(c), n <= 60 ? n : -1);
            due.is("the one that is READY", x.late(s), 0);
            due.is("NOW", x.count(0), 2);
        }
        TokenHeart x = begun();
        int r = Due.runner(x, 0, STOP, 0, 0, 0);
        x.run(1);
        due.is("a STOPPED one", x.late(r), -1);
        int w = Due.runner(x, 2, WAIT, 1, -1, -1);
        x.run(1);
        due.is("one that waits", x.late(w), -1);
        drop(x, 2);
        due.is("a GONE one", x.late(w), -1);
        due.is("NOW", x.count(0), 2);
    }

    // 'THE ROW: n numbers (1 .. 60), for each TICK to come the RUNNER that is chosen (NONE: -1)'
    private static void records() {
        TokenHeart x = begun();
        Due.runner(x, 0, 99, 0, 0, 0);
        Due.runner(x, 0, ADD, 1, 0, 0, STOP, 0, 0, 0);
        for (int n = 1; n <= 60; n++) {
            x.lay(n);
            for (int i = 0; i < n; i++) {
                x.write(i, i == 0 ? 0 : i < 3 ? 1 : -1);
            }
            due.is("a RECORD of " + n, x.judge(), -1);
            int before = x.write(n - 1, 7);
            due.is("the last isn't so", x.judge(), n - 1);
            x.write(n - 1, before);
        }
        x.write(0, -1);
        due.is("a FAULT has its RUNNER", x.judge(), 0);
        due.is("nothing is changed", x.count(0) + x.count(10), 0);
        x.lay(0);
        due.is("none of 0", x.judge(), -5);
    }
}
