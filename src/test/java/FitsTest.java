/**
 * Terms 1: 'a TOKEN FITS for RIGHTS, if ..' and 'a ONCE one ..', for each use of a token that Terms 2
 * and 3 and promises 3, 4, 12 tell: with the least RIGHTS, without them, and each way not to fit.
 */
public final class FitsTest {
    private static final int READ = 1;
    private static final int WRITE = 2;
    private static final int LEND = 4;
    private static final int TAKE = 8;
    private static final int CALL = 15;
    private static final int WAIT = 16;
    private static final int ANSWER = 17;

    // Of which token the one that is used is lent, by its slot in box 0.
    private static final int PAGE = 1;
    private static final int BOX = 2;
    private static final int GATE = 3;
    private static final int USED = 5;

    private static Due due = new Due();

    /** Does something: 1 if that is done, else -7. */
    private interface Use {
        int on(TokenHeart x);
    }

    /** What is done before slot 5 has the token that is used, and its use, of one tick at most. */
    private record Way(String name, int of, int needs, Use before, Use use) {
        Way(String name, int of, int needs, Use use) {
            this(name, of, needs, x -> 1, use);
        }
    }

    private static final Way[] WAYS = {
        new Way("LEND a", PAGE, LEND, x -> x.act(0, Due.LEND, USED, Due.bc(0, 9))),
        new Way("NARROW a", PAGE, LEND, x -> x.act(0, Due.NARROW, USED, Due.bc(1, 9))),
        new Way("ONCE a", PAGE, LEND, x -> x.act(0, Due.ONCE, USED, Due.bc(0, 9))),
        new Way("TILL a", PAGE, LEND, x -> x.act(0, Due.TILL, USED, Due.bc(500, 0))),
        new Way("SEAL a", PAGE, LEND, x -> x.act(0, Due.SEAL, USED, Due.bc(4, 0))),
        new Way("TAKE a", PAGE, TAKE, x -> x.act(0, Due.TAKE, USED, 0)),
        new Way("PUT a", PAGE, LEND, x -> x.act(0, Due.PUT, USED, Due.bc(2, 9))),
        new Way("GET what is in a", PAGE, LEND, x -> x.act(0, Due.GET, USED, Due.bc(8, 9))),
        new Way("SEAL by b", PAGE, WRITE, x -> x.act(0, Due.SEAL, 6, Due.bc(USED, 0))),
        new Way("OPEN by b", PAGE, READ, x -> x.act(0, Due.OPEN, 7, Due.bc(USED, 0))),
        new Way("PUT by b", BOX, WRITE, x -> x.act(0, Due.PUT, 6, Due.bc(USED, 9))),
        new Way("GET by b", BOX, READ, x -> x.act(0, Due.GET, 0, Due.bc(USED, 9))),
        new Way("load", PAGE, READ, x -> x.load(0, USED) == 77 ? 1 : -7),
        new Way("store", PAGE, WRITE, x -> x.store(0, USED, 5)),
        new Way("keeper", GATE, READ, x -> x.keeper(0, USED)),
        new Way("step LEND", PAGE, LEND, x -> step(x, Due.LEND, USED, 0, 9)),
        new Way("step TAKE", PAGE, TAKE, x -> step(x, Due.TAKE, USED, 0, 0)),
        new Way("step LOAD", PAGE, READ, x -> step(x, 4, USED, 0, 0)),
        new Way("step STORE", PAGE, WRITE, x -> step(x, 5, USED, 0, 0)),
        new Way("CALL at a", GATE, WRITE, x -> step(x, CALL, USED, -1, -1)),
        new Way("CALL at a, taken", GATE, WRITE, FitsTest::oneWaits, x -> step(x, CALL, USED, -1, -1)),
        new Way("CALL with b", PAGE, LEND, x -> step(x, CALL, GATE, USED, -1)),
        new Way("CALL with b, taken", PAGE, LEND, FitsTest::oneWaits, x -> step(x, CALL, GATE, USED, -1)),
        new Way("CALL with b, taken later", PAGE, LEND, FitsTest::oneCalls, x -> step(x, WAIT, GATE, 9, -1)),
        new Way("WAIT at a", GATE, READ, x -> step(x, WAIT, USED, -1, -1)),
        new Way("WAIT at a, a call is there", GATE, READ, x -> step(x, CALL, GATE, -1, -1),
            x -> step(x, WAIT, USED, -1, -1)),
        new Way("ANSWER with b", PAGE, LEND, FitsTest::oneServes, FitsTest::answer),
    };

    public static void main(String[] args) {
        for (Way way : WAYS) {
            rights(way);
            notFitting(way);
            lastTick(way);
            if (way.needs == READ || way.needs == WRITE) {
                once(way);
            }
        }
        onceThatStays();
        roomFits();
        due.end("FitsTest");
    }

    /**
     * Box 0 has page 1, box 2, gate 3, page 4 in these slots, in slot 6 a token of page 4, in 7 one that
     * page 1 has sealed, in 8 one of box 0; box 2 has page 4 in slot 0. Runner 0 is stopped; nobody
     * has time but in a use.
     */
    private static TokenHeart begun() {
        TokenHeart x = new TokenHeart();
        int[] kinds = {Due.PAGE, Due.BOX, Due.GATE, Due.PAGE};
        for (int i = 0; i < 4; i++) {
            x.act(0, Due.MAKE, 0, Due.bc(kinds[i], 1 + i));
        }
        x.store(0, 1, 77);
        x.act(0, Due.PUT, 4, Due.bc(2, 0));
        for (int slot = 5; slot <= 7; slot++) {
            x.act(0, Due.LEND, 4, Due.bc(0, slot));
        }
        x.act(0, Due.SEAL, 7, Due.bc(1, 0));
        due.is("slot 8 is of box 0", Due.read(x, "gets 0 0 rl"), 1);
        x.act(0, Due.DROP, 5, 0);
        Due.runner(x, 0, 0, 0, 0, 0);
        x.run(1);
        x.rule(1);
        return x;
    }

    private static TokenHeart withUsed(Way way, int rights) {
        TokenHeart x = begun();
        due.is("before", way.before.on(x), 1);
        due.is("narrowed", x.act(0, Due.NARROW, way.of, Due.bc(rights, USED)), 1);
        return x;
    }

    private static int step(TokenHeart x, int what, int a, int b, int c) {
        return step(x, 0, what, a, b, c);
    }

    /** A new runner in a box does this step now: 1, or -7 where that is a FAULT. */
    private static int step(TokenHeart x, int box, int what, int a, int b, int c) {
        int faults = x.count(10);
        int r = Due.runner(x, box, what, a, b, c);
        turn(x, r);
        return x.count(10) == faults ? 1 : -7;
    }

    private static void turn(TokenHeart x, int r) {
        Due.rows(x, 3, r);
        x.time(3);
        x.run(1);
        x.sheet(3, 0);
        x.time(3);
    }

    /** Runner 1 waits at the gate, in box 2. */
    private static int oneWaits(TokenHeart x) {
        x.act(0, Due.PUT, GATE, Due.bc(2, 1));
        return step(x, 2, WAIT, 1, 5, -1);
    }

    /** Runner 1 calls at the gate, with what is in slot 5, and has another slot 5 then. */
    private static int oneCalls(TokenHeart x) {
        x.act(0, Due.LEND, 6, Due.bc(0, USED));
        return step(x, CALL, GATE, USED, -1) * x.act(0, Due.DROP, USED, 0);
    }

    /** Runner 1 serves, its next step is the answer; runner 2 has called. */
    private static int oneServes(TokenHeart x) {
        Due.runner(x, 0, WAIT, GATE, -1, -1, ANSWER, 0, USED, -1);
        turn(x, 1);
        return step(x, CALL, GATE, -1, 9);
    }

    private static int answer(TokenHeart x) {
        int faults = x.count(10);
        turn(x, 1);
        return x.count(10) == faults ? 1 : -7;
    }

    private static void rights(Way way) {
        due.is(way.name + " with that right alone", way.use.on(withUsed(way, way.needs)), 1);
        due.is(way.name + " with all rights", way.use.on(withUsed(way, 15)), 1);
        due.is(way.name + " with all others", way.use.on(withUsed(way, 15 - way.needs)), -7);
        due.is(way.name + " with none", way.use.on(withUsed(way, 0)), -7);
    }

    private static void notFitting(Way way) {
        TokenHeart x = withUsed(way, 15);
        due.is("seal it", x.act(0, Due.SEAL, USED, Due.bc(4, 0)), 1);
        due.is(way.name + " of a SEALED one", way.use.on(x), -7);
        x = withUsed(way, 15);
        due.is("take it", x.act(0, Due.TAKE, way.of, 0), 1);
        due.is(way.name + " of a DOOMED one", way.use.on(x), -7);
        x = withUsed(way, 15);
        x.act(0, Due.DROP, USED, 0);
        due.is(way.name + " of an empty slot", way.use.on(x), -7);
    }

    private static void lastTick(Way way) {
        TokenHeart x = withUsed(way, 15);
        due.is("till now", x.act(0, Due.TILL, USED, Due.bc(x.count(0), 0)), 1);
        due.is(way.name + " at its last TICK", way.use.on(x), 1);
        x = withUsed(way, 15);
        due.is("till now", x.act(0, Due.TILL, USED, Due.bc(x.count(0), 0)), 1);
        x.run(1);
        due.is(way.name + " behind its last TICK", way.use.on(x), -7);
    }

    private static void once(Way way) {
        TokenHeart x = begun();
        due.is("before", way.before.on(x), 1);
        due.is("once", x.act(0, Due.ONCE, way.of, Due.bc(0, USED)), 1);
        due.is(way.name + " by a ONCE one", way.use.on(x), 1);
        due.is(way.name + ": it is gone", x.slot(0, USED), -1);
        due.is(way.name + ": its lender is there", x.slot(0, way.of) >= 0 ? 1 : 0, 1);
    }

    private static void stays(String why, int of, Use use) {
        TokenHeart x = begun();
        x.act(0, Due.ONCE, of, Due.bc(0, USED));
        int token = x.slot(0, USED);
        due.is(why, use.on(x), -7);
        due.is(why + ": it stays", x.slot(0, USED), token);
    }

    /** What isn't done uses no ONCE token up. */
    private static void onceThatStays() {
        stays("SEAL of an empty slot", PAGE, x -> x.act(0, Due.SEAL, 9, Due.bc(USED, 0)));
        stays("OPEN of an empty slot", PAGE, x -> x.act(0, Due.OPEN, 9, Due.bc(USED, 0)));
        stays("OPEN of what isn't sealed", PAGE, x -> x.act(0, Due.OPEN, 6, Due.bc(USED, 0)));
        stays("OPEN by another thing", BOX, x -> x.act(0, Due.OPEN, 7, Due.bc(USED, 0)));
        stays("PUT of an empty slot", BOX, x -> x.act(0, Due.PUT, 9, Due.bc(USED, 9)));
        stays("PUT of room", BOX, x -> x.act(0, Due.PUT, 0, Due.bc(USED, 9)));
        stays("PUT into a slot that isn't empty", BOX, x -> x.act(0, Due.PUT, 6, Due.bc(USED, 0)));
        stays("PUT into slot 10", BOX, x -> x.act(0, Due.PUT, 6, Due.bc(USED, 10)));
        stays("PUT into a page", PAGE, x -> x.act(0, Due.PUT, 6, Due.bc(USED, 9)));
        stays("GET of an empty slot", BOX, x -> x.act(0, Due.GET, 9, Due.bc(USED, 9)));
        stays("GET of slot 10", BOX, x -> x.act(0, Due.GET, 10, Due.bc(USED, 9)));
        stays("GET into a slot that isn't empty", BOX, x -> x.act(0, Due.GET, 0, Due.bc(USED, 6)));
        stays("GET into its own slot", BOX, x -> x.act(0, Due.GET, 0, Due.bc(USED, USED)));
        stays("GET from a page", PAGE, x -> x.act(0, Due.GET, 0, Due.bc(USED, 9)));
        stays("LEND of it", PAGE, x -> x.act(0, Due.LEND, USED, Due.bc(0, 9)));
        stays("TILL of it", PAGE, x -> x.act(0, Due.TILL, USED, Due.bc(5, 0)));
        stays("TAKE of it", PAGE, x -> x.act(0, Due.TAKE, USED, 0));
        stays("load of a box", BOX, x -> x.load(0, USED) == 0 ? -7 : 0);
        stays("store to a gate", GATE, x -> x.store(0, USED, 1));
        stays("keeper by a page", PAGE, x -> x.keeper(0, USED));
        stays("LOAD of a gate", GATE, x -> step(x, 4, USED, 0, 0));
        stays("STORE to a box", BOX, x -> step(x, 5, USED, 0, 0));
        stays("CALL at a page", PAGE, x -> step(x, CALL, USED, -1, -1));
        stays("CALL with an empty slot", GATE, x -> step(x, CALL, USED, 9, -1));
        stays("CALL with room", GATE, x -> step(x, CALL, USED, 0, -1));
        stays("CALL with c 10", GATE, x -> step(x, CALL, USED, -1, 10));
        stays("WAIT at a box", BOX, x -> step(x, WAIT, USED, -1, -1));
        stays("WAIT with b 10", GATE, x -> step(x, WAIT, USED, 10, -1));
    }

    /** TOKENS of ROOM: FITS alone is asked. */
    private static void roomFits() {
        TokenHeart x = begun();
        due.is("SEAL of room", x.act(0, Due.SEAL, 0, Due.bc(1, 0)), 1);
        due.is("sealed: SPLIT", x.act(0, Due.SPLIT, 0, Due.bc(1, 9)), -7);
        due.is("sealed: MAKE", x.act(0, Due.MAKE, 0, Due.bc(0, 9)), -7);
        due.is("sealed: TAKE", x.act(0, Due.TAKE, 0, 0), -7);
        due.is("sealed: TILL", x.act(0, Due.TILL, 0, Due.bc(9, 0)), -7);
        due.is("OPEN of room", x.act(0, Due.OPEN, 0, Due.bc(1, 0)), 1);
        due.is("SPLIT of it", x.act(0, Due.SPLIT, 0, Due.bc(50, 9)), 1);
        due.is("TAKE of it", x.act(0, Due.TAKE, 0, 0), 1);
        due.is("doomed: SPLIT", x.act(0, Due.SPLIT, 9, Due.bc(1, 5)), -7);
        due.is("doomed: MAKE", x.act(0, Due.MAKE, 9, Due.bc(0, 5)), -7);
        due.is("doomed: SEAL", x.act(0, Due.SEAL, 9, Due.bc(1, 0)), -7);
        due.is("TILL of room", x.act(0, Due.TILL, 0, Due.bc(x.count(0), 0)), 1);
        due.is("at its last TICK: SPLIT", x.act(0, Due.SPLIT, 0, Due.bc(1, 5)), 1);
        x.act(0, Due.DROP, 5, 0);
        due.is("at its last TICK: MAKE", x.act(0, Due.MAKE, 0, Due.bc(0, 5)), 1);
        x.run(1);
        due.is("behind it: SPLIT", x.act(0, Due.SPLIT, 0, Due.bc(1, 9)), -7);
        due.is("behind it: MAKE", x.act(0, Due.MAKE, 0, Due.bc(0, 9)), -7);
        due.is("behind it: TAKE", x.act(0, Due.TAKE, 0, 0), -7);
    }
}
