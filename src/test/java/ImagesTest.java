import java.util.ArrayList;
import java.util.List;

/** Promises 31 and 32, over an object in which there is something of all that an image keeps; and full rows. */
public final class ImagesTest {
    private static final int SET = 1;
    private static final int ADD = 2;
    private static final int JUMP = 3;
    private static final int CALL = 15;
    private static final int WAIT = 16;
    private static final int ANSWER = 17;

    private static Due due = new Due();

    public static void main(String[] args) {
        allIsAgainAsItWas();
        whatComesIsAgainAsItWas();
        trialsChangeNothing();
        whatIsNotKept();
        textThatCannotBeDone();
        eightRunnersAtAGate();
        eightRunnersOfABox();
        eightRunnersCall();
        twentyWishesOfOneThing();
        due.end("ImagesTest");
    }

    private static void make(TokenHeart x, int box, int kind, int slot) {
        due.is("make " + kind + " in " + slot, x.act(box, Due.MAKE, 0, Due.bc(kind, slot)), 1);
    }

    private static void act(TokenHeart x, int box, int what, int a, int b, int c) {
        due.is("act " + what + " of " + a, x.act(box, what, a, Due.bc(b, c)), 1);
    }

    /**
     * Gate 1, box 2, line 3, page 4, promise 5 by slots of box 0; in box 2 tokens of each kind, one SEALED,
     * one SEALED by a thing that is gone, one with a last TICK; runners of each state; all rows told.
     */
    private static TokenHeart rich() {
        TokenHeart x = new TokenHeart();
        int[] kinds = {Due.GATE, Due.BOX, Due.LINE, Due.PAGE, Due.PROMISE};
        for (int i = 0; i < kinds.length; i++) {
            make(x, 0, kinds[i], i + 1);
        }
        tokensOfEachKind(x);
        runnersOfEachState(x);
        act(x, 0, Due.TAKE, 4, -1, -1);
        due.is("doomed", x.count(3), 6);
        due.is("stored", x.store(0, 4, 77), 1);
        due.is("written", x.store(0, 3, 5), 1);
        due.is("written", x.store(0, 3, 6), 1);
        Due.rows(x, 0, 11, 12, 13);
        due.is("in", x.in(3, 0), 3);
        due.is("read", x.load(0, 3), 11);
        Due.rows(x, 0, 4, 3, 9);
        due.is("time", x.time(0), 3);
        due.is("rule", x.rule(1), 0);
        due.is("wishes", Due.read(x, "never 2 4 rw;apart 0 2;never 0 1 t"), 3);
        return x;
    }

    private static void tokensOfEachKind(TokenHeart x) {
        for (int i = 0; i < 5; i++) {
            act(x, 0, Due.PUT, i < 1 ? 1 : 4, 2, i);
        }
        act(x, 2, Due.NARROW, 1, 6, 5);
        act(x, 2, Due.ONCE, 1, -1, 6);
        act(x, 2, Due.SEAL, 2, 1, -1);
        act(x, 2, Due.TILL, 4, 500, -1);
        make(x, 0, Due.CLOCK, 6);
        act(x, 0, Due.PUT, 6, 2, 7);
        act(x, 2, Due.SEAL, 3, 7, -1);
        act(x, 0, Due.DROP, 6, -1, -1);
        // what is made of a part that is gone has no token of which it was made, and goes to the pool
        for (int i = 0; i < 2; i++) {
            act(x, 0, Due.SPLIT, 0, 20, 6);
            due.is("made of a part", x.act(0, Due.MAKE, 6, Due.bc(Due.CLOCK, 7 + i)), 1);
            act(x, 0, Due.DROP, 6, -1, -1);
        }
        act(x, 0, Due.DROP, 7, -1, -1);
        act(x, 0, Due.SPLIT, 0, 30, 6);
        due.is("made of a part", x.act(0, Due.MAKE, 6, Due.bc(Due.PAGE, 7)), 1);
    }

    private static void runnersOfEachState(TokenHeart x) {
        make(x, 0, Due.BOX, 9);
        int box = x.token(x.slot(0, 9), 1);
        Due.runner(x, box, SET, 1, 0, 0);
        act(x, 0, Due.DROP, 9, -1, -1);
        Due.runner(x, 2, WAIT, 0, -1, -1, ADD, 1, 0, 0, ADD, 1, 0, 0, ANSWER, 0, -1, -1);
        Due.runner(x, 0, CALL, 1, -1, 9, SET, 3, 0, 0, JUMP, 1, 0, 0);
        Due.runner(x, 0, WAIT, 5, 9, -1, ADD, 1, 0, 0, ANSWER, 0, 4, -1);
        Due.runner(x, 2, SET, 4, 0, 0, ADD, 1, 0, 0, JUMP, 1, 0, 0);
        Due.runner(x, 2, 0, 0, 0, 0);
        due.is("tell", x.tell(2, 41), 1);
        due.is("keeper", x.keeper(4, 0), 1);
        due.is("run", x.run(6), 6);
        due.is("unserved", Due.runner(x, 0, CALL, 1, 4, -1, SET, 8, 0, 0), 6);
        due.is("unserved", Due.runner(x, 0, CALL, 1, -1, -1, SET, 9, 0, 0), 7);
        due.is("run", x.run(4), 4);
        int[] states = {4, 0, 2, 1, 0, 3, 2, 2};
        for (int r = 0; r < states.length; r++) {
            due.is("state of " + r, x.look(r, 1), states[r]);
        }
        due.is("served", x.look(2, 6), 1);
        due.is("not served", x.look(6, 6), -1);
        due.is("not served", x.look(7, 6), -1);
    }

    /** All that an image keeps, as far as it can be looked at. */
    private static List<Integer> all(TokenHeart x) {
        List<Integer> seen = new ArrayList<>();
        for (int what = 0; what < 12; what++) {
            seen.add(what == 7 ? 0 : x.count(what));
        }
        for (int t = 0; t < 120; t++) {
            for (int what = 0; what < 10; what++) {
                seen.add(x.token(t, what));
            }
            seen.add(x.below(t));
        }
        for (int t = 0; t < 40; t++) {
            for (int what = 0; what < 6; what++) {
                seen.add(x.thing(t, what));
            }
            for (int i = 0; i < 30; i++) {
                seen.add(i < 10 ? x.slot(t, i) : -9);
                seen.add(x.out(t, i));
            }
            for (int box = 0; box < 40; box++) {
                seen.add(x.could(box, t));
            }
        }
        for (int r = 0; r < 8; r++) {
            for (int what = 0; what < 9; what++) {
                seen.add(x.look(r, what));
            }
            for (int k = 0; k < 40; k++) {
                seen.add(x.step(r, k, k % 4));
            }
        }
        for (int wish = 0; wish < 20; wish++) {
            seen.add(x.show(wish));
        }
        return seen;
    }

    /** What comes of it: what is loaded, and how it looks after each of many ticks by both rules. */
    private static List<Integer> future(TokenHeart x) {
        List<Integer> seen = new ArrayList<>();
        for (int i = 0; i < 4; i++) {
            seen.add(x.load(0, 3));
        }
        for (int i = 0; i < 24; i++) {
            seen.add(x.run(1));
            seen.addAll(all(x));
            if (i == 11) {
                seen.add(x.rule(0));
            }
        }
        return seen;
    }

    /** Things go, others have their numbers, runners do other things, more comes. */
    private static void spoil(TokenHeart x) {
        x.store(0, 4, 1);
        x.store(0, 3, 9);
        x.load(0, 3);
        x.run(3);
        for (int slot = 9; slot >= 1; slot--) {
            x.act(0, Due.DROP, slot, 0);
        }
        for (int slot = 1; slot <= 9; slot++) {
            make(x, 0, slot % 2 == 0 ? Due.BOX : Due.CLOCK, slot);
        }
        for (int r = 0; r < 8; r++) {
            x.resume(r, 1);
            x.tell(r, -5);
            x.keeper(r, -1);
        }
        Due.rows(x, 0, 1);
        x.time(0);
        x.rule(0);
        Due.read(x, "never 0 1 r;never 0 2 r;gets 2 0 rwlt;gets 2 1 rl");
        x.act(0, Due.DROP, 0, 0);
        x.run(200);
    }

    private static void same(String what, List<Integer> got, List<Integer> want) {
        due.is(what + ": how many", got.size(), want.size());
        for (int i = 0; i < Math.min(got.size(), want.size()); i++) {
            due.is(what + ": number " + i, got.get(i), want.get(i));
        }
    }

    // 'All is again as it was kept'
    private static void allIsAgainAsItWas() {
        TokenHeart x = rich();
        List<Integer> before = all(x);
        due.is("image", x.image(), 10);
        same("an image changes nothing", all(x), before);
        for (int i = 0; i < 2; i++) {
            spoil(x);
            due.is("spoiled", x.count(0), 213);
            due.is("back", x.back(), 10);
            same("back", all(x), before);
        }
    }

    /** Also what can't be looked at: where IN stands, who has called longest, to which slots tokens come. */
    private static void whatComesIsAgainAsItWas() {
        List<Integer> want = future(rich());
        TokenHeart x = rich();
        x.image();
        for (int i = 0; i < 2; i++) {
            spoil(x);
            x.back();
            same("what comes", future(x), want);
            x.back();
        }
    }

    // 'All is as before then'; 'a run that changes nothing'; late() looks ahead, too
    private static void trialsChangeNothing() {
        List<Integer> want = future(rich());
        TokenHeart x = rich();
        List<Integer> before = all(x);
        for (int i = 0; i < 8; i++) {
            due.is("leak", x.leak(10 + i, i % 2, 460) >= 1 || i == 1 ? 1 : 0, 1);
            x.late(i);
        }
        x.lay(60);
        x.judge();
        same("as before", all(x), before);
        same("what comes", future(x), want);
    }

    // '(but SHEETS, THE ROW, THE TAPE, status())'
    private static void whatIsNotKept() {
        TokenHeart x = new TokenHeart();
        Due.rows(x, 1, 4, 5);
        x.lay(2);
        x.write(1, 6);
        x.feed(7, 1);
        x.act(0, 99, 0, 0);
        x.image();
        x.sheet(0, 1);
        x.set(1, 0, 8);
        x.write(1, 9);
        x.feed(7, 2);
        x.act(0, 99, 0, 0);
        x.back();
        due.is("a sheet that came", x.set(0, 0, 0), 0);
        due.is("it is there", x.status(-2), 0);
        due.is("a sheet", x.set(1, 0, 0), 8);
        due.is("the row", x.row(1), 9);
        due.is("the tape", x.count(7), 3);
        due.is("status", x.status(-5), 2);
        x.tear();
        x.sheet(1, -1);
        x.wipe();
        x.back();
        due.is("the row is missing", x.tear(), 0);
        due.is("the sheet is missing", x.time(1), -2);
        due.is("the tape", x.count(7), 0);
    }

    // 'A TEXT is done whole, or, if a STATEMENT can't be .., not at all'
    private static void textThatCannotBeDone() {
        TokenHeart x = rich();
        List<Integer> before = all(x);
        due.is("no thing 39", Due.read(x, "gets 2 4 rw;never 0 2 r;apart 0 2;gets 0 3 r;gets 0 39 r"), -7);
        same("as before", all(x), before);
        same("what comes", future(x), future(rich()));
    }

    // 'RUNNERS that WAIT or CALL there (served, too) are STOPPED; nobody has it for a KEEPER any more'
    private static void eightRunnersAtAGate() {
        TokenHeart x = new TokenHeart();
        make(x, 0, Due.GATE, 1);
        for (int r = 0; r < 8; r++) {
            Due.runner(x, 0, r < 4 ? WAIT : CALL, 1, -1, -1);
            due.is("keeper", x.keeper(r, 1), 1);
        }
        due.is("ticks", x.run(8), 8);
        for (int r = 0; r < 8; r++) {
            due.is("state of " + r, x.look(r, 1), r < 4 ? 0 : 2);
        }
        act(x, 0, Due.DROP, 1, -1, -1);
        for (int r = 0; r < 8; r++) {
            due.is("state of " + r, x.look(r, 1), r < 4 ? 0 : 3);
            due.is("serves", x.look(r, 7), -1);
            due.is("keeper of " + r, x.look(r, 4), -1);
        }
    }

    // 'A BOX that is gone: .. its RUNNERS are GONE'
    private static void eightRunnersOfABox() {
        TokenHeart x = new TokenHeart();
        make(x, 0, Due.BOX, 1);
        for (int r = 0; r < 8; r++) {
            Due.runner(x, 1, SET, r, 0, 0);
        }
        due.is("no ninth", x.runner(1, 3), -8);
        act(x, 0, Due.DROP, 1, -1, -1);
        for (int r = 0; r < 8; r++) {
            due.is("state of " + r, x.look(r, 1), 4);
            due.is("keeper of none", x.keeper(r, -1), 1);
            due.is("it has no box any more", x.keeper(r, 0), -7);
        }
        due.is("nobody", x.run(3), 0);
    }

    // 'the one that has CALLED longest', of seven
    private static void eightRunnersCall() {
        TokenHeart x = new TokenHeart();
        make(x, 0, Due.GATE, 1);
        Due.runner(x, 0, WAIT, 1, -1, -1, ANSWER, 0, -1, -1, SET, 1, 0, 0, JUMP, 0, 0, 0);
        int[] order = {7, 3, 1, 6, 2, 5, 4};
        for (int r = 1; r < 8; r++) {
            Due.runner(x, 0, CALL, 1, -1, -1);
        }
        Due.rows(x, 0, order);
        x.time(0);
        x.rule(1);
        due.is("all call", x.run(7), 7);
        Due.rows(x, 0, 0);
        x.time(0);
        for (int r : order) {
            due.is("a wait", x.run(1), 1);
            due.is("whom it serves", x.look(0, 7), r);
            due.is("answers, and goes round", x.run(3), 3);
        }
        due.is("nobody calls", x.run(1), 1);
        due.is("waits", x.look(0, 1), 1);
    }

    // '(A WISH of something that is gone since holds, ..)', of WISHES 0 .. 19
    private static void twentyWishesOfOneThing() {
        TokenHeart x = new TokenHeart();
        make(x, 0, Due.PAGE, 1);
        for (int i = 0; i < 20; i++) {
            due.is("wish " + i, Due.read(x, "never 0 1 r"), 1);
            due.is("does not hold", x.show(i), 0);
        }
        due.is("image", x.image(), 0);
        act(x, 0, Due.DROP, 1, -1, -1);
        make(x, 0, Due.PAGE, 1);
        due.is("the number is another one's", x.thing(1, 0), 0);
        for (int i = 0; i < 20; i++) {
            due.is("holds", x.show(i), -1);
        }
        x.back();
        for (int i = 0; i < 20; i++) {
            due.is("is there again", x.show(i), 0);
        }
    }
}
