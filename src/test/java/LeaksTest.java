/** Promises 21 to 23: leak, late, judge. */
public final class LeaksTest {
    private static final int CALL = 15;
    private static final int WAIT = 16;
    private static final int ANSWER = 17;

    private static Due due = new Due();

    public static void main(String[] args) {
        refusals();
        byNothing();
        bySlots();
        byTime();
        byAccAndState();
        goneOne();
        nothingIsChanged();
        late();
        judge();
        due.end("LeaksTest");
    }

    private static void refusals() {
        TokenHeart x = new TokenHeart();
        due.is("no runners", x.leak(1, 7, 0), -3);
        int a = Due.runner(x, 0, 2, 1, 0, 0, 3, 0, 0, 0);
        due.is("no runner 1", x.leak(1, 0, 201), -3);
        due.is("no runner 1", x.leak(10, 0, 201), -3);
        int b = Due.runner(x, 0, 2, 1, 0, 0, 3, 0, 0, 0);
        due.is("runners", 10 * a + b, 1);
        due.is("below 0", x.leak(-1, 0, 201), -3);
        due.is("below 0", x.leak(-10, 0, 201), -3);
        due.is("far beyond", x.leak(101, 0, 201), -3);
        due.is("as low as it can be", x.leak(Integer.MIN_VALUE, 0, 201), -3);
        due.is("rule 2", x.leak(1, 2, 201), -7);
        due.is("rule -1", x.leak(1, -1, 201), -7);
        due.is("k 1", x.leak(1, 0, 101), -7);
        due.is("k 17", x.leak(1, 0, 1701), -7);
        due.is("n 0", x.leak(1, 0, 200), -7);
        due.is("n 61", x.leak(1, 0, 261), -7);
        due.is("below 0", x.leak(1, 0, -201), -7);
        due.is("as low as it can be", x.leak(1, 0, Integer.MIN_VALUE), -7);
        due.is("one and itself", x.leak(11, 0, 201), -7);
        due.is("as much as there can be", x.leak(1, 0, 1660) > 0 ? 1 : 0, 1);
        Due.runner(x, 0, 0, 0, 0, 0);
        x.run(3);
        due.is("from isn't ready", x.leak(21, 0, 201), -7);
        due.is("to may be stopped", x.leak(12, 0, 201), 1);
        for (int i = 0; i < 49; i++) {
            x.run(200);
        }
        x.run(190);
        due.is("now", x.count(0), 9993);
        due.is("up to 9999", x.leak(1, 0, 206), 1);
        due.is("above 9999", x.leak(1, 0, 207), -8);
        due.is("ahead of it what isn't told so", x.leak(1, 2, 207), -7);
    }

    private static void byNothing() {
        TokenHeart x = new TokenHeart();
        Due.runner(x, 0, 2, 1, 0, 0, 1, 1, 0, 0, 3, 0, 0, 0);
        Due.runner(x, 0, 2, 1, 0, 0, 1, 1, 0, 0, 3, 0, 0, 0);
        for (int rule = 0; rule < 2; rule++) {
            due.is("nothing is told", x.leak(1, rule, 1660), 1);
            due.is("nothing is told", x.leak(10, rule, 1660), 1);
        }
    }

    /** What is in the slots of the other one's box: it drops one, or doesn't. */
    private static void bySlots() {
        TokenHeart x = new TokenHeart();
        x.act(0, Due.MAKE, 0, Due.bc(Due.PAGE, 1));
        int[] row = {3, 2, 0, 0, 0, 0, 0, 0, 6, 1, 0, 5, 1, 0, 0, 0, 1, 1, 0, 0, 3, 4, 0, 0};
        Due.runner(x, 0, row);
        Due.runner(x, 0, 1, 1, 0, 0, 3, 0, 0, 0);
        x.rule(1);
        Due.rows(x, 0, 0, 1);
        x.time(0);
        due.is("0 stops, the others lend", x.leak(1, 1, 1620), 2);
        due.is("after one tick nothing is seen yet", x.leak(1, 1, 1602), 1);
        due.is("after the third it is", x.leak(1, 1, 1603), 2);
        x.act(0, Due.MAKE, 0, Due.bc(Due.BOX, 2));
        x.runner(2, 3);
        Due.runner(x, 2, 1, 1, 0, 0, 3, 0, 0, 0);
        due.is("not in another box", x.leak(3, 1, 1620), 1);
        x = new TokenHeart();
        Due.runner(x, 0, 3, 2, 0, 0, 14, 0, 0, 0, 1, 1, 0, 0, 3, 2, 0, 0);
        Due.runner(x, 0, 0, 0, 0, 0);
        due.is("slot 0, too", x.leak(1, 0, 205), 2);
        x.rule(1);
        Due.rows(x, 0, 1);
        x.time(0);
        x.run(1);
        due.is("it is stopped", x.look(1, 1), 3);
        due.is("one that is stopped sees that, too", x.leak(1, 0, 205), 2);
        x.act(0, Due.DROP, 0, 0);
        due.is("nothing to drop", x.leak(1, 0, 205), 1);
    }

    /** By rule 0 the time of one that stops is the other's; by rule 1 it is nobody's. */
    private static void byTime() {
        TokenHeart x = new TokenHeart();
        Due.runner(x, 0, 3, 2, 0, 0, 0, 0, 0, 0, 1, 1, 0, 0, 3, 2, 0, 0);
        Due.runner(x, 0, 2, 1, 0, 0, 1, 1, 0, 0, 3, 0, 0, 0);
        Due.rows(x, 0, 0, 1);
        x.time(0);
        due.is("by fair turns", x.leak(1, 0, 520), 2);
        due.is("by the row", x.leak(1, 1, 520), 1);
        Due.runner(x, 0, 1, 0, 0, 0, 1, 0, 0, 0, 1, 0, 0, 0, 1, 0, 0, 0, 1, 0, 0, 0, 1, 0, 0, 0);
        due.is("by its place alone", x.leak(2, 0, 508), 2);
        due.is("the rule is as before", x.count(8), 0);
    }

    private static void byAccAndState() {
        TokenHeart x = new TokenHeart();
        x.act(0, Due.MAKE, 0, Due.bc(Due.GATE, 1));
        int server = Due.runner(x, 0, WAIT, 1, -1, -1, 1, 1, 0, 0, 3, 1, 0, 0);
        int caller = Due.runner(x, 0, CALL, 1, -1, -1);
        due.is("acc is told by a call", x.leak(10 * caller + server, 0, 1602), 16);
        due.is("but not yet after a tick", x.leak(10 * caller + server, 0, 1601), 1);
        x = new TokenHeart();
        x.act(0, Due.MAKE, 0, Due.bc(Due.PAGE, 1));
        Due.runner(x, 0, 5, 1, 0, 0, 1, 1, 0, 0, 3, 1, 0, 0);
        Due.runner(x, 0, 4, 1, 0, 0, 3, 3, 0, 0, 0, 0, 0, 0, 1, 1, 0, 0, 3, 3, 0, 0);
        due.is("a page is read", x.leak(1, 0, 702), 7);
        due.is("page", x.load(0, 1), 0);
    }

    private static void goneOne() {
        TokenHeart x = new TokenHeart();
        x.act(0, Due.MAKE, 0, Due.bc(Due.BOX, 1));
        Due.runner(x, 0, 3, 2, 0, 0, 14, 1, 0, 0, 1, 1, 0, 0, 3, 2, 0, 0);
        Due.runner(x, 1, 1, 1, 0, 0, 3, 0, 0, 0);
        due.is("it is gone in one run", x.leak(1, 0, 304), 2);
        due.is("it is there", x.look(1, 1), 0);
        due.is("its box, too", x.thing(1, 0), 1);
        x.act(0, Due.DROP, 1, 0);
        due.is("one that is gone sees nothing", x.leak(1, 0, 304), 1);
    }

    private static void nothingIsChanged() {
        TokenHeart x = new TokenHeart();
        x.act(0, Due.MAKE, 0, Due.bc(Due.PAGE, 1));
        x.act(0, Due.MAKE, 0, Due.bc(Due.LINE, 2));
        Due.rows(x, 0, 4, 5, 6, 7, 8, 9);
        x.in(2, 0);
        x.act(0, Due.LEND, 1, Due.bc(0, 3));
        Due.runner(x, 0, 4, 2, 0, 0, 5, 2, 0, 0, 5, 1, 0, 0, 13, 1, 0, 0, 9, 9, 9, 9);
        Due.runner(x, 0, 0, 0, 0, 0);
        x.run(2);
        x.tell(0, 33);
        x.lay(9);
        for (int i = 0; i < 3; i++) {
            due.is("call", i == 0 ? x.leak(1, 0, 809) : i == 1 ? x.late(1) : x.judge(), i == 0 ? 1 : i == 1 ? -1 : 4);
            int[] count = {2, 3, 4, 0, 0, 2, 0, 0, 0, 1, 0, 0};
            for (int what = 0; what < 12; what++) {
                due.is("count(" + what + ")", x.count(what), count[what]);
            }
            due.is("acc", x.look(0, 3), 33);
            due.is("place", x.look(0, 2), 1);
            due.is("state", x.look(0, 1), 0);
            due.is("in", x.thing(2, 5), 5);
            due.is("out", x.thing(2, 4), 0);
            due.is("page", x.thing(1, 2), 0);
            due.is("doomed", x.token(3, 9), 0);
        }
    }

    // Promise 22
    private static void late() {
        TokenHeart x = new TokenHeart();
        due.is("no runner", x.late(0), -3);
        due.is("no runner", x.late(-1), -3);
        x.act(0, Due.MAKE, 0, Due.bc(Due.GATE, 1));
        int caller = Due.runner(x, 0, CALL, 1, -1, -1, 1, 1, 0, 0, 3, 1, 0, 0);
        due.is("it is ready", x.late(caller), 0);
        x.run(1);
        due.is("nobody waits", x.late(caller), -1);
        int server = Due.runner(x, 0, 1, 2, 0, 0, WAIT, 1, -1, -1, ANSWER, 0, -1, -1);
        due.is("behind three steps", x.late(caller), 3);
        due.is("the server is ready", x.late(server), 0);
        x.run(2);
        due.is("behind one", x.late(caller), 1);
        x.run(1);
        due.is("now", x.late(caller), 0);
        due.is("no runner", x.late(2), -3);
        lateAtTheEnd();
        lateAt60();
    }

    /** The server's steps up to its answer: 2 for each round, and one or two more. */
    private static void lateAt60() {
        TokenHeart x = new TokenHeart();
        x.act(0, Due.MAKE, 0, Due.bc(Due.GATE, 1));
        int caller = Due.runner(x, 0, CALL, 1, -1, -1, 0, 0, 0, 0);
        int[] row = {WAIT, 1, -1, -1, 2, 0, 0, 0, 2, -1, 0, 0, 3, 2, 0, 0, ANSWER, 0, -1, -1};
        int server = Due.runner(x, 0, row);
        x.run(2);
        due.is("served", x.look(server, 7), caller);
        x.tell(server, 29);
        due.is("29 rounds and 2", x.late(caller), 60);
        x.tell(server, 30);
        due.is("30 rounds and 2", x.late(caller), -1);
        x.run(1);
        due.is("30 rounds and 1", x.late(caller), -1);
        x.tell(server, 29);
        due.is("29 rounds and 1", x.late(caller), 59);
        Due.rows(x, 0, 7, server);
        x.time(0);
        x.rule(1);
        x.tell(server, 5);
        due.is("by the rule there is, at each second tick", x.late(caller), 21);
    }

    private static void lateAtTheEnd() {
        TokenHeart x = new TokenHeart();
        x.act(0, Due.MAKE, 0, Due.bc(Due.GATE, 1));
        int caller = Due.runner(x, 0, CALL, 1, -1, -1, 0, 0, 0, 0);
        for (int i = 0; i < 49; i++) {
            x.run(200);
        }
        x.run(197);
        Due.runner(x, 0, WAIT, 1, -1, -1, ANSWER, 0, -1, -1);
        due.is("now", x.count(0), 9997);
        due.is("at 9999", x.late(caller), 2);
        x.lay(2);
        x.write(0, 1);
        x.write(1, 1);
        due.is("a record of the last ticks", x.judge(), -1);
        x.lay(3);
        due.is("above", x.judge(), -8);
        x.resume(1, 0);
        x.run(1);
        x.image();
        due.is("one step more", x.late(caller), 1);
        x.run(1);
        due.is("ready", x.late(caller), 0);
        x.back();
        Due.runner(x, 0, 0, 0, 0, 0);
        due.is("ticks above 9999 are none", x.late(caller), -1);
    }

    // Promise 23
    private static void judge() {
        TokenHeart x = new TokenHeart();
        due.is("missing", x.judge(), -2);
        x.lay(0);
        due.is("its size", x.judge(), -5);
        x.lay(4);
        due.is("nobody comes", x.judge(), 0);
        for (int i = 0; i < 4; i++) {
            x.write(i, -1);
        }
        due.is("nobody", x.judge(), -1);
        Due.runner(x, 0, 2, 1, 0, 0, 0, 0, 0, 0);
        Due.runner(x, 0, 0, 0, 0, 0);
        int[] want = {0, 1, 0, -1};
        for (int i = 0; i < 4; i++) {
            x.write(i, 7);
        }
        for (int i = 0; i < 4; i++) {
            due.is("the first that isn't so", x.judge(), i);
            x.write(i, want[i]);
        }
        due.is("a record", x.judge(), -1);
        due.is("now", x.count(0), 0);
        due.is("nobody yet", x.count(9), -1);
        x.write(1, 0);
        x.write(3, 0);
        due.is("the first of two", x.judge(), 1);
        x.rule(1);
        due.is("by the rule there is", x.judge(), 0);
        x.lay(60);
        due.is("60", x.judge(), 0);
    }
}
