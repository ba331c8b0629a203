/** Terms 3: CALL, WAIT, ANSWER, and what comes of those who are STOPPED or GONE. */
public final class MeetingsTest {
    private static final int CALL = 15;
    private static final int WAIT = 16;
    private static final int ANSWER = 17;
    private static final int STOP = 0;
    private static final int SET = 1;

    private static Due due = new Due();

    public static void main(String[] args) {
        callTakenByOneThatWaits();
        callTakenLater();
        whoIsFirst();
        gifts();
        giftsLater();
        answers();
        slotsAreLookedAt();
        rightsAreLookedAt();
        promise();
        leftAlone();
        gateGoes();
        onceGates();
        handsOnTime();
        keeperOfCaller();
        lastTickComesAlong();
        due.end("MeetingsTest");
    }

    /** Box 1 (slot 1 of box 0) has gate 2 in slot 0, box 0 has it in slot 2, and a page, thing 3, in slot 3. */
    private static TokenHeart withGate(int kind) {
        TokenHeart x = new TokenHeart();
        x.act(0, Due.MAKE, 0, Due.bc(Due.BOX, 1));
        x.act(0, Due.MAKE, 0, Due.bc(kind, 2));
        x.act(0, Due.MAKE, 0, Due.bc(Due.PAGE, 3));
        x.act(0, Due.PUT, 2, Due.bc(1, 0));
        return x;
    }

    private static void state(TokenHeart x, int r, String when, int... want) {
        int[] what = {1, 2, 3, 5, 6, 7};
        for (int i = 0; i < want.length; i++) {
            due.is(when + ": look(" + r + ", " + what[i] + ")", x.look(r, what[i]), want[i]);
        }
    }

    private static void callTakenByOneThatWaits() {
        TokenHeart x = withGate(Due.GATE);
        int server = Due.runner(x, 1, WAIT, 0, -1, -1, 2, 3, 0, 0, ANSWER, 0, -1, -1);
        int caller = Due.runner(x, 0, CALL, 2, -1, -1, STOP, 0, 0, 0);
        x.tell(caller, 40);
        x.run(1);
        state(x, server, "it waits", 1, 0, 0, 2, -1, -1);
        x.run(1);
        state(x, server, "it serves", 0, 1, 40, -1, -1, caller);
        state(x, caller, "it calls", 2, 0, 40, 2, server, -1);
        x.run(1);
        state(x, server, "it adds", 0, 2, 43, -1, -1, caller);
        x.run(1);
        state(x, server, "it has answered", 0, 3, 43, -1, -1, -1);
        state(x, caller, "it is answered", 0, 1, 43, -1, -1, -1);
        due.is("no fault", x.count(10), 0);
    }

    private static void callTakenLater() {
        TokenHeart x = withGate(Due.GATE);
        int caller = Due.runner(x, 0, CALL, 2, -1, -1, STOP, 0, 0, 0);
        int server = Due.runner(x, 1, WAIT, 0, -1, -1, ANSWER, 0, -1, -1);
        x.tell(caller, 40);
        x.run(1);
        state(x, caller, "it calls", 2, 0, 40, 2, -1, -1);
        x.run(1);
        state(x, server, "it takes the call at once", 0, 1, 40, -1, -1, caller);
        state(x, caller, "it is served", 2, 0, 40, 2, server, -1);
        x.run(1);
        state(x, caller, "it is answered", 0, 1, 40, -1, -1, -1);
    }

    private static void whoIsFirst() {
        TokenHeart x = withGate(Due.GATE);
        int a = Due.runner(x, 1, WAIT, 0, -1, -1, STOP, 0, 0, 0);
        int b = Due.runner(x, 1, WAIT, 0, -1, -1, STOP, 0, 0, 0);
        int c = Due.runner(x, 0, CALL, 2, -1, -1);
        x.run(2);
        state(x, b, "both wait", 1, 0);
        x.run(1);
        due.is("the least takes it", x.look(c, 6), a);
        due.is("the other waits", x.look(b, 1), 1);

        x = withGate(Due.GATE);
        Due.rows(x, 0, 1, 0, 2);
        int first = Due.runner(x, 0, CALL, 2, -1, -1);
        int longest = Due.runner(x, 0, CALL, 2, -1, -1);
        int server = Due.runner(x, 1, WAIT, 0, -1, -1);
        x.rule(1);
        x.time(0);
        x.run(3);
        due.is("the one that has called longest", x.look(server, 7), longest);
        state(x, first, "the other calls", 2, 0, 0, 2, -1, -1);
    }

    private static void gifts() {
        TokenHeart x = withGate(Due.GATE);
        int server = Due.runner(x, 1, WAIT, 0, 5, -1, STOP, 0, 0, 0);
        int caller = Due.runner(x, 0, CALL, 2, 3, -1);
        x.run(2);
        int lent = x.slot(1, 5);
        due.is("lent", x.token(lent, 0), 1);
        due.is("of the page", x.token(lent, 1), 3);
        due.is("its lender", x.token(lent, 4), x.slot(0, 3));
        due.is("it serves", x.look(server, 7), caller);
        int[][] bad = {{0, 5, -1}, {3, -1, -1}, {3, 0, -1}, {9, 5, -1}};
        for (int[] s : bad) {
            x = withGate(Due.GATE);
            server = Due.runner(x, 1, WAIT, 0, s[1], -1, STOP, 0, 0, 0);
            caller = Due.runner(x, 0, CALL, 2, s[0], -1);
            x.run(2);
            String text = "call with slot " + s[0] + " to slot " + s[1];
            state(x, caller, text + " is a fault of the caller", 3, 0, 0, -1, -1, -1);
            state(x, server, text + ": the other waits still", 1, 0, 0, 2, -1, -1);
            due.is(text + ": faults", x.count(10), 1);
        }
        x = withGate(Due.GATE);
        server = Due.runner(x, 1, WAIT, 0, 0, -1, STOP, 0, 0, 0);
        caller = Due.runner(x, 0, CALL, 2, -1, -1);
        x.run(2);
        due.is("a slot that isn't empty is looked at only if something is lent", x.look(server, 7), caller);
    }

    private static void giftsLater() {
        TokenHeart x = withGate(Due.GATE);
        int caller = Due.runner(x, 0, CALL, 2, 3, -1);
        int other = Due.runner(x, 0, CALL, 2, -1, -1);
        int server = Due.runner(x, 1, WAIT, 0, 6, -1, STOP, 0, 0, 0);
        x.run(2);
        x.act(0, Due.DROP, 3, 0);
        x.run(1);
        state(x, caller, "what it told can't be lent now", 3, 0, 0, -1, -1, -1);
        due.is("the next is looked at", x.look(server, 7), other);
        due.is("a fault of the caller", x.count(10), 1);

        x = withGate(Due.GATE);
        caller = Due.runner(x, 0, CALL, 2, 3, -1);
        server = Due.runner(x, 1, WAIT, 0, 6, -1, STOP, 0, 0, 0);
        x.run(1);
        x.act(0, Due.DROP, 3, 0);
        x.act(0, Due.MAKE, 0, Due.bc(Due.CLOCK, 3));
        x.run(1);
        due.is("what is in the slot as it is taken", x.thing(x.token(x.slot(1, 6), 1), 0), Due.CLOCK);

        x = withGate(Due.GATE);
        caller = Due.runner(x, 0, CALL, 2, 9, -1);
        x.run(1);
        due.is("looked at as the step is done, too", x.look(caller, 1), 3);

        x = withGate(Due.GATE);
        caller = Due.runner(x, 0, CALL, 2, 3, -1);
        server = Due.runner(x, 1, WAIT, 0, -1, -1, STOP, 0, 0, 0);
        x.run(2);
        state(x, caller, "none may come", 3, 0, 0, -1, -1, -1);
        state(x, server, "so it waits", 1, 0, 0, 2, -1, -1);
    }

    private static void answers() {
        int[][] tries = {{0, 5, 1}, {0, -1, 0}, {0, 3, 0}, {-1, 3, 1}, {-1, -1, 1}, {7, 5, 0}};
        for (int[] t : tries) {
            TokenHeart x = withGate(Due.GATE);
            int server = Due.runner(x, 1, WAIT, 0, -1, -1, SET, 8, 0, 0, ANSWER, 99, t[0], -1, STOP, 0, 0, 0);
            int caller = Due.runner(x, 0, CALL, 2, -1, t[1], STOP, 0, 0, 0);
            x.run(4);
            String text = "answer with slot " + t[0] + " to slot " + t[1];
            if (t[2] == 1) {
                state(x, caller, text, 0, 1, 8, -1, -1, -1);
                state(x, server, text, 0, 3, 8, -1, -1, -1);
                due.is(text + ": something came", x.slot(0, 5) >= 0 ? 1 : 0, t[0] >= 0 ? 1 : 0);
            } else {
                state(x, server, text + " is a fault of the one that answers", 3, 2, 8, -1, -1, -1);
                state(x, caller, text + ": left alone", 0, 1, -1, -1, -1, -1);
            }
            due.is(text + ": faults", x.count(10), 1 - t[2]);
        }
        TokenHeart x = withGate(Due.GATE);
        int r = Due.runner(x, 1, ANSWER, 0, -1, -1);
        x.run(1);
        due.is("answer to nobody", x.look(r, 1), 3);
        x = withGate(Due.GATE);
        Due.runner(x, 1, WAIT, 0, -1, -1, WAIT, 0, -1, -1);
        Due.runner(x, 0, CALL, 2, -1, -1);
        x.run(3);
        due.is("wait while it serves", x.look(0, 1), 3);
        due.is("a fault", x.count(10), 1);
        state(x, 1, "the caller is left alone", 0, 1, -1);
    }

    /** b and c are -1 .. 9, used or not. */
    private static void slotsAreLookedAt() {
        int[][] bad = {{-2, -1}, {10, -1}, {-1, -2}, {-1, 10}};
        int[] whats = {CALL, WAIT, ANSWER};
        for (int what : whats) {
            for (int[] s : bad) {
                TokenHeart x = withGate(Due.GATE);
                int server = Due.runner(x, 1, WAIT, 0, -1, -1, what, 0, s[0], s[1]);
                int caller = Due.runner(x, 0, what == WAIT ? WAIT : CALL, 2, -1, -1);
                if (what == WAIT) {
                    server = Due.runner(x, 0, what, 2, s[0], s[1]);
                }
                x.run(3);
                due.is(what + " with " + s[0] + ", " + s[1], x.look(server, 1), 3);
                due.is("a fault", x.count(10), 1);
                due.is("runner", caller, 1);
            }
        }
    }

    private static void rightsAreLookedAt() {
        for (int what = CALL; what <= WAIT; what++) {
            for (int rights = 1; rights <= 2; rights++) {
                TokenHeart x = withGate(Due.GATE);
                x.act(0, Due.NARROW, 2, Due.bc(rights, 4));
                int r = Due.runner(x, 0, what, 4, -1, -1);
                x.run(1);
                boolean done = what == CALL ? rights == 2 : rights == 1;
                due.is(what + " by rights " + rights, x.look(r, 1), done ? what == CALL ? 2 : 1 : 3);
            }
            for (int slot = 0; slot <= 10; slot++) {
                TokenHeart x = withGate(Due.GATE);
                int r = Due.runner(x, 0, what, slot, -1, -1);
                x.run(1);
                due.is(what + " at slot " + slot, x.look(r, 1), slot == 2 ? what == CALL ? 2 : 1 : 3);
            }
        }
    }

    private static void promise() {
        TokenHeart x = withGate(Due.PROMISE);
        int server = Due.runner(x, 1, WAIT, 0, -1, -1, ANSWER, 0, -1, -1, WAIT, 0, -1, -1);
        int caller = Due.runner(x, 0, CALL, 2, -1, -1);
        int second = Due.runner(x, 0, CALL, 2, -1, -1);
        x.keeper(server, 0);
        x.keeper(second, 2);
        x.run(3);
        state(x, second, "it calls", 2, 0, 0, 2, -1, -1);
        x.run(1);
        due.is("the promise is gone", x.thing(2, 0), -3);
        due.is("with all of its tokens", x.slot(1, 0), -1);
        due.is("with all of its tokens", x.slot(0, 2), -1);
        due.is("its room is back", x.token(0, 3), 910);
        state(x, caller, "it is answered", 0, 1, 0, -1, -1, -1);
        state(x, second, "who called there is stopped", 3, 0, 0, -1, -1, -1);
        due.is("that is no fault", x.count(10), 0);
        due.is("nobody's keeper", x.look(server, 4), -1);
        due.is("nobody's keeper", x.look(second, 4), -1);
        x.run(2);
        due.is("no gate any more", x.count(10), 2);

        // its first token, and one that isn't below another, are as all others
        x = withGate(Due.PROMISE);
        x.act(0, Due.DROP, 0, 0);
        due.is("token 0", Due.read(x, "gets 0 2 rw"), 1);
        Due.runner(x, 1, WAIT, 0, -1, -1, ANSWER, 0, -1, -1);
        Due.runner(x, 0, CALL, 0, -1, -1);
        x.run(3);
        due.is("gone", x.slot(0, 0), -1);
        due.is("gone", x.thing(2, 0), -3);
    }

    private static void leftAlone() {
        TokenHeart x = withGate(Due.GATE);
        int server = Due.runner(x, 1, WAIT, 0, -1, -1, STOP, 0, 0, 0);
        int caller = Due.runner(x, 0, CALL, 2, -1, -1, STOP, 0, 0, 0);
        x.run(3);
        state(x, server, "it stops", 3, 2, 0, -1, -1, -1);
        state(x, caller, "left alone", 0, 1, -1, -1, -1, -1);

        x = withGate(Due.GATE);
        server = Due.runner(x, 1, WAIT, 0, -1, -1, STOP, 0, 0, 0);
        caller = Due.runner(x, 0, CALL, 2, -1, -1, STOP, 0, 0, 0);
        x.run(2);
        x.act(0, Due.DROP, 1, 0);
        state(x, server, "it is gone", 4, 1, 0, -1, -1, -1);
        state(x, caller, "left alone", 0, 1, -1, -1, -1, -1);

        x = withGate(Due.GATE);
        Due.read(x, "gets 1 1 rwlt");
        server = Due.runner(x, 1, 14, 1, 0, 0);
        x.act(0, Due.DROP, 1, 0);
        x.run(1);
        state(x, server, "gone by its own step", 4, 1);
    }

    private static void gateGoes() {
        TokenHeart x = withGate(Due.GATE);
        int server = Due.runner(x, 1, WAIT, 0, -1, -1, SET, 5, 0, 0);
        int caller = Due.runner(x, 0, CALL, 2, -1, -1);
        int waits = Due.runner(x, 1, WAIT, 0, -1, -1);
        x.run(3);
        x.act(0, Due.DROP, 2, 0);
        due.is("the gate is gone", x.thing(2, 0), -3);
        state(x, caller, "who calls there, served", 3, 0, 0, -1, -1, -1);
        state(x, waits, "who waits there", 3, 0, 0, -1, -1, -1);
        state(x, server, "who served serves nobody", 0, 1, 0, -1, -1, -1);
        due.is("no fault", x.count(10), 0);

        // 0 calls at gate 2, served by 1, that calls there, too, served by 2: looked at one by one
        x = withGate(Due.GATE);
        int a = Due.runner(x, 0, CALL, 2, -1, -1);
        int b = Due.runner(x, 0, WAIT, 2, -1, -1, CALL, 2, -1, -1);
        int c = Due.runner(x, 0, WAIT, 2, -1, -1);
        x.run(4);
        due.is("c serves b", x.look(c, 7) == b && x.look(b, 7) == a ? 1 : 0, x.look(b, 1) == 2 ? 1 : 0);
        x.act(0, Due.DROP, 2, 0);
        state(x, a, "first", 3, 0);
        state(x, b, "second", 3, 1);
        // b called while it served a: it is stopped behind a, with nobody to leave alone
        due.is("not left alone", x.look(a, 3), 0);

        // the one with the higher number serves none, the lower one is served by it
        x = withGate(Due.GATE);
        b = Due.runner(x, 0, WAIT, 2, -1, -1, CALL, 2, -1, -1);
        a = Due.runner(x, 0, CALL, 2, -1, -1, SET, 9, 0, 0);
        x.run(3);
        state(x, b, "calls while it serves", 2, 1, 0, 2, -1, a);
        x.act(0, Due.DROP, 2, 0);
        state(x, b, "stopped first", 3, 1, 0, -1, -1, -1);
        state(x, a, "so the other was left alone, and is ready", 0, 1, -1, -1, -1, -1);
    }

    private static void onceGates() {
        TokenHeart x = withGate(Due.GATE);
        x.act(0, Due.ONCE, 2, Due.bc(0, 4));
        int r = Due.runner(x, 0, CALL, 4, -1, -1);
        x.run(1);
        state(x, r, "it calls", 2, 0, 0, 2, -1, -1);
        due.is("used up though not yet served", x.slot(0, 4), -1);
        x.act(0, Due.ONCE, 2, Due.bc(0, 4));
        int s = Due.runner(x, 0, CALL, 4, 0, -1);
        x.run(1);
        due.is("a fault", x.look(s, 1), 3);
        due.is("it stays", x.slot(0, 4) >= 0 ? 1 : 0, 1);
        int w = Due.runner(x, 0, WAIT, 4, -1, -1, WAIT, 4, -1, -1);
        x.run(1);
        due.is("taken", x.look(w, 7), r);
        due.is("used up", x.slot(0, 4), -1);

        x = withGate(Due.GATE);
        x.act(0, Due.ONCE, 2, Due.bc(0, 4));
        w = Due.runner(x, 0, WAIT, 4, -1, -1);
        x.run(1);
        due.is("it waits", x.look(w, 1), 1);
        due.is("used up", x.slot(0, 4), -1);

        // the last token of the gate
        x = withGate(Due.GATE);
        Due.read(x, "gets 0 2 rwl");
        x.act(0, Due.DROP, 2, 0);
        x.act(0, Due.ONCE, 4, Due.bc(0, 5));
        r = Due.runner(x, 0, 14, 4, 0, 0, CALL, 5, -1, -1);
        x.run(2);
        due.is("with its lender it is gone", x.look(r, 1), 3);

        // its slot isn't free for what comes by it
        x = withGate(Due.GATE);
        x.act(0, Due.ONCE, 2, Due.bc(0, 4));
        r = Due.runner(x, 0, CALL, 2, 3, -1);
        w = Due.runner(x, 0, WAIT, 4, 4, -1);
        x.run(2);
        due.is("a fault of the caller", x.look(r, 1), 3);
        due.is("so it waits", x.look(w, 1), 1);
        due.is("behind that it is used up", x.slot(0, 4), -1);
    }

    /** By the row of time, one that is served hands on its time, and so on. */
    private static void handsOnTime() {
        TokenHeart x = withGate(Due.GATE);
        x.act(0, Due.MAKE, 0, Due.bc(Due.GATE, 4));
        int last = Due.runner(x, 0, WAIT, 4, -1, -1, 2, 1, 0, 0, 2, 1, 0, 0, ANSWER, 0, -1, -1);
        int mid = Due.runner(x, 0, WAIT, 2, -1, -1, CALL, 4, -1, -1, ANSWER, 0, -1, -1);
        int first = Due.runner(x, 0, CALL, 2, -1, -1, STOP, 0, 0, 0);
        x.run(3);
        state(x, mid, "mid serves", 0, 1, 0, -1, -1, first);
        x.run(1);
        state(x, mid, "mid calls", 2, 1, 0, 4, last, first);
        Due.rows(x, 0, first);
        x.time(0);
        x.rule(1);
        int[] order = {last, last, last, mid, first};
        for (int i = 0; i < order.length; i++) {
            due.is("time of the first", x.run(1), 1);
            due.is("done by", x.count(9), order[i]);
        }
        due.is("stopped", x.run(1), 0);
        due.is("acc", x.look(first, 3), 2);
    }

    private static void keeperOfCaller() {
        // a fault of the caller, found by the one that does its own WAIT at the keeper's gate
        TokenHeart x = withGate(Due.GATE);
        int caller = Due.runner(x, 0, CALL, 2, 3, -1);
        int server = Due.runner(x, 1, WAIT, 0, -1, -1);
        x.keeper(caller, 2);
        x.run(2);
        due.is("a fault", x.count(10), 1);
        state(x, server, "it didn't wait yet for a keeper", 1, 0, 0, 2, -1, -1);

        // the same, found by the call: the one that waits is woken as a keeper
        x = withGate(Due.GATE);
        server = Due.runner(x, 1, WAIT, 0, -1, -1);
        caller = Due.runner(x, 0, CALL, 2, 3, -1);
        x.keeper(caller, 2);
        x.run(2);
        state(x, server, "woken by the fault", 0, 1, 100 + caller, -1, -1, -1);
        state(x, caller, "stopped", 3, 0, 0, -1, -1, -1);
    }

    private static void lastTickComesAlong() {
        TokenHeart x = withGate(Due.GATE);
        x.act(0, Due.TILL, 3, Due.bc(1, 0));
        int server = Due.runner(x, 1, WAIT, 0, 5, -1, ANSWER, 0, 5, -1);
        int caller = Due.runner(x, 0, CALL, 2, 3, 6);
        x.run(2);
        due.is("with the call", x.token(x.slot(1, 5), 8), 1);
        x.run(1);
        due.is("behind its last tick it can't be lent", x.look(server, 1), 3);
        due.is("left alone", x.look(caller, 3), -1);
        x = withGate(Due.GATE);
        x.act(0, Due.TILL, 3, Due.bc(9, 0));
        Due.runner(x, 1, WAIT, 0, 5, -1, ANSWER, 0, 5, -1);
        Due.runner(x, 0, CALL, 2, 3, 6);
        x.run(3);
        due.is("with the answer", x.token(x.slot(0, 6), 8), 9);
        due.is("its lender", x.token(x.slot(0, 6), 4), x.slot(1, 5));
    }
}
