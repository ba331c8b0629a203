/** Promises 11 to 20: runner, keeper, look, step, tell, resume, rule, time, in, run. */
public final class RunnersTest {
    private static Due due = new Due();

    public static void main(String[] args) {
        runner();
        steps();
        keeper();
        lookAndStep();
        tellAndResume();
        ruleFair();
        ruleRow();
        in();
        run();
        ownSteps();
        actsAsSteps();
        faults();
        due.end("RunnersTest");
    }

    // Promise 11
    private static void runner() {
        TokenHeart x = new TokenHeart();
        due.is("no box, ahead of a missing sheet", x.runner(1, 0), -3);
        due.is("no sheet", x.runner(0, 4), -3);
        due.is("no sheet", x.runner(0, -1), -3);
        due.is("missing", x.runner(0, 0), -2);
        x.sheet(0, 160);
        for (int i = 0; i < 8; i++) {
            due.is("runner " + i, x.runner(0, 0), i);
        }
        due.is("a ninth", x.runner(0, 0), -8);
        due.is("a ninth by a missing sheet", x.runner(0, 1), -2);
        due.is("a ninth of no box", x.runner(3, 0), -3);
        due.is("runners", x.count(5), 8);
        x.act(0, Due.MAKE, 0, Due.bc(Due.PAGE, 1));
        due.is("a page is no box", x.runner(1, 0), -3);
    }

    private static void steps() {
        TokenHeart x = new TokenHeart();
        int[] sizes = {0, 3, 4, 7, 8, 159, 160};
        int[] want = {0, 0, 1, 1, 2, 39, 40};
        for (int i = 0; i < sizes.length; i++) {
            x.sheet(0, sizes[i]);
            int r = x.runner(0, 0);
            due.is("steps of " + sizes[i] + " numbers", x.look(r, 8), want[i]);
        }
    }

    // Promise 12
    private static void keeper() {
        TokenHeart x = new TokenHeart();
        due.is("no runner", x.keeper(0, -1), -3);
        int r = Due.runner(x, 0, 0, 0, 0, 0);
        due.is("no runner", x.keeper(1, 99), -3);
        due.is("no runner", x.keeper(-1, -1), -3);
        due.is("room", x.keeper(r, 0), -7);
        due.is("an empty slot", x.keeper(r, 1), -7);
        due.is("slot 10", x.keeper(r, 10), -7);
        due.is("slot -2", x.keeper(r, -2), -7);
        x.act(0, Due.MAKE, 0, Due.bc(Due.GATE, 1));
        x.act(0, Due.MAKE, 0, Due.bc(Due.PROMISE, 2));
        x.act(0, Due.MAKE, 0, Due.bc(Due.PAGE, 3));
        due.is("a page", x.keeper(r, 3), -7);
        due.is("none yet", x.look(r, 4), -1);
        due.is("a gate", x.keeper(r, 1), 1);
        due.is("keeper", x.look(r, 4), 1);
        due.is("a promise", x.keeper(r, 2), 1);
        due.is("keeper", x.look(r, 4), 2);
        due.is("refused", x.keeper(r, 3), -7);
        due.is("keeper still", x.look(r, 4), 2);
        due.is("none", x.keeper(r, -1), 1);
        due.is("none", x.look(r, 4), -1);
        x.act(0, Due.NARROW, 1, Due.bc(2, 4));
        x.act(0, Due.NARROW, 1, Due.bc(1, 5));
        due.is("without READ", x.keeper(r, 4), -7);
        due.is("by READ", x.keeper(r, 5), 1);
        x.act(0, Due.ONCE, 1, Due.bc(0, 6));
        due.is("by one for once", x.keeper(r, 6), 1);
        due.is("it is used up", x.slot(0, 6), -1);
        x.act(0, Due.DROP, 1, 0);
        due.is("the gate is gone", x.look(r, 4), -1);
        Due.read(x, "gets 0 2 r");
        x.act(0, Due.ONCE, 2, Due.bc(0, 7));
    }

    // Promises 13 and 14
    private static void lookAndStep() {
        TokenHeart x = new TokenHeart();
        int r = Due.runner(x, 0, 1, 9, 8, 7, -6, 5, 4, 3, 2);
        int[] want = {0, 0, 0, 0, -1, -1, -1, -1, 2};
        for (int what = 0; what < 9; what++) {
            due.is("look(0, " + what + ")", x.look(r, what), want[what]);
        }
        due.is("what 9", x.look(r, 9), -7);
        due.is("what -1", x.look(r, -1), -7);
        due.is("no runner", x.look(1, 9), -3);
        due.is("no runner", x.look(-1, 0), -3);
        int[] row = {1, 9, 8, 7, -6, 5, 4, 3};
        for (int i = 0; i < 8; i++) {
            due.is("step number " + i, x.step(r, i / 4, i % 4), row[i]);
        }
        due.is("status(-3)", x.status(-3), 2);
        due.is("k 2", x.step(r, 2, 0), 0);
        due.is("k -1", x.step(r, -1, 0), 0);
        due.is("i 4", x.step(r, 0, 4), 0);
        due.is("i -1", x.step(r, 1, -1), 0);
        due.is("no runner", x.step(1, 0, 0), 0);
        due.is("no runner", x.step(-1, 0, 0), 0);
        due.is("status(-3)", x.status(-3), 8);
        x.set(3, 0, 55);
        due.is("its own row", x.step(r, 0, 0), 1);
    }

    // Promises 15 and 16
    private static void tellAndResume() {
        TokenHeart x = new TokenHeart();
        due.is("no runner", x.tell(0, 0), -3);
        due.is("no runner", x.resume(0, 0), -3);
        int r = Due.runner(x, 0, 0, 0, 0, 0);
        due.is("tell", x.tell(r, -9), 1);
        due.is("acc", x.look(r, 3), -9);
        due.is("no runner", x.tell(-1, 0), -3);
        due.is("it isn't stopped", x.resume(r, 0), -7);
        due.is("run", x.run(1), 1);
        due.is("it is stopped", x.look(r, 1), 3);
        due.is("tell", x.tell(r, 4), -7);
        due.is("acc stays", x.look(r, 3), -9);
        due.is("place -1", x.resume(r, -1), -7);
        due.is("place 41", x.resume(r, 41), -7);
        due.is("no runner, ahead of the place", x.resume(1, 41), -3);
        due.is("no runner", x.resume(-1, 0), -3);
        due.is("place 40", x.resume(r, 40), 1);
        due.is("ready", x.look(r, 1), 0);
        due.is("place", x.look(r, 2), 40);
        due.is("acc", x.look(r, 3), -9);
        due.is("no step there", x.run(1), 1);
        due.is("a fault", x.count(10), 1);
        due.is("place stays", x.look(r, 2), 40);
        due.is("place 0", x.resume(r, 0), 1);
    }

    // Promise 17, and rule 0 of Terms 4
    private static void ruleFair() {
        TokenHeart x = new TokenHeart();
        due.is("rule -1", x.rule(-1), -7);
        due.is("rule 2", x.rule(2), -7);
        due.is("rule 1", x.rule(1), 0);
        due.is("count(8)", x.count(8), 1);
        due.is("rule 0", x.rule(0), 1);
        due.is("rule 0", x.rule(0), 0);
        due.is("nobody is there", x.run(3), 0);
        due.is("nobody", x.count(9), -1);
        for (int i = 0; i < 3; i++) {
            Due.runner(x, 0, 2, 1, 0, 0, 2, 1, 0, 0, 0, 0, 0, 0);
        }
        int[] order = {0, 1, 2, 0, 1, 2, 0, 1, 2, -1};
        for (int i = 0; i < 10; i++) {
            due.is("tick " + i, x.run(1), order[i] < 0 ? 0 : 1);
            due.is("chosen last", x.count(9), order[i] < 0 ? 2 : order[i]);
        }
        x.resume(1, 0);
        x.resume(0, 0);
        due.is("behind 2 comes 0", x.run(1), 1);
        due.is("chosen", x.count(9), 0);
        x.resume(2, 0);
        x.run(2);
        due.is("round", x.count(9), 2);
    }

    // Promise 18, and rule 1 of Terms 4
    private static void ruleRow() {
        TokenHeart x = new TokenHeart();
        due.is("no sheet", x.time(4), -3);
        due.is("no sheet", x.time(-1), -3);
        due.is("missing", x.time(0), -2);
        Due.runner(x, 0, 2, 1, 0, 0, 3, 0, 0, 0);
        Due.runner(x, 0, 2, 1, 0, 0, 3, 0, 0, 0);
        x.rule(1);
        due.is("no row at first", x.run(5), 0);
        Due.rows(x, 0, 1, 1, -1, 0, 7, 2);
        due.is("time", x.time(0), 6);
        due.is("count(11)", x.count(11), 6);
        int[] row = {1, 1, -1, 0, 7, 2};
        for (int now = 5; now < 20; now++) {
            int want = row[now % 6];
            int before = x.count(9);
            boolean is = want == 0 || want == 1;
            due.is("tick " + now, x.run(1), is ? 1 : 0);
            due.is("chosen last", x.count(9), is ? want : before);
        }
        x.sheet(1, 17);
        for (int i = 0; i < 17; i++) {
            x.set(1, i, i == 16 ? 0 : -1);
        }
        due.is("the first 16", x.time(1), 16);
        due.is("none of them", x.run(34), 0);
        x.sheet(2, 0);
        due.is("none", x.time(2), 0);
        due.is("nobody", x.run(2), 0);
        x.rule(0);
        due.is("by rule 0", x.run(2), 2);
        x.set(0, 0, 0);
        due.is("its own row", x.count(11), 0);
    }

    // Promise 19
    private static void in() {
        TokenHeart x = new TokenHeart();
        x.act(0, Due.MAKE, 0, Due.bc(Due.LINE, 1));
        due.is("no thing", x.in(2, 0), -3);
        due.is("no thing", x.in(-1, 0), -3);
        due.is("no sheet", x.in(1, 4), -3);
        due.is("no sheet", x.in(1, -1), -3);
        due.is("missing, ahead of its kind", x.in(0, 0), -2);
        due.is("missing", x.in(1, 0), -2);
        x.sheet(0, 40);
        for (int i = 0; i < 40; i++) {
            x.set(0, i, 100 + i);
        }
        due.is("a box is no line", x.in(0, 0), -5);
        due.is("the first 30", x.in(1, 0), 30);
        due.is("left", x.thing(1, 5), 30);
        for (int i = 0; i < 30; i++) {
            due.is("load " + i, x.load(0, 1), 100 + i);
        }
        due.is("left", x.thing(1, 5), 0);
        due.is("no more", x.load(0, 1), 0);
        x.in(1, 0);
        x.load(0, 1);
        Due.rows(x, 1, 3, 4);
        due.is("another row", x.in(1, 1), 2);
        due.is("left", x.thing(1, 5), 2);
        due.is("load", x.load(0, 1), 3);
        x.sheet(2, 0);
        due.is("none", x.in(1, 2), 0);
        due.is("load", x.load(0, 1), 0);
    }

    // Promise 20
    private static void run() {
        TokenHeart x = new TokenHeart();
        due.is("n -1", x.run(-1), -4);
        due.is("n 0", x.run(0), -7);
        due.is("n 201", x.run(201), -7);
        due.is("n as low as it can be", x.run(Integer.MIN_VALUE), -4);
        due.is("n 200", x.run(200), 0);
        due.is("now", x.count(0), 200);
        Due.runner(x, 0, 2, 1, 0, 0, 3, 0, 0, 0);
        for (int i = 1; i < 49; i++) {
            due.is("200 steps", x.run(200), 200);
        }
        due.is("199", x.run(199), 199);
        due.is("now", x.count(0), 9999);
        due.is("full", x.run(1), -8);
        due.is("not full, but no", x.run(0), -7);
        due.is("leak of nobody", x.leak(1, 0, 201), -3);
        Due.runner(x, 0, 0, 0, 0, 0);
        due.is("leak is full", x.leak(1, 0, 201), -8);
        x.lay(1);
        due.is("judge is full", x.judge(), -8);
        due.is("late, it is ready", x.late(0), 0);
    }

    // Terms 3: 0 to 5
    private static void ownSteps() {
        TokenHeart x = new TokenHeart();
        x.act(0, Due.MAKE, 0, Due.bc(Due.PAGE, 1));
        x.act(0, Due.MAKE, 0, Due.bc(Due.CLOCK, 2));
        x.store(0, 1, 30);
        int r = Due.runner(x, 0,
            1, Integer.MAX_VALUE, 0, 0,
            2, 2, 0, 0,
            4, 1, 0, 0,
            2, -7, 0, 0,
            5, 1, 0, 0,
            4, 2, 0, 0,
            1, 0, 0, 0,
            3, 0, 0, 0,
            1, -1, 0, 0,
            3, 11, 0, 0,
            1, 77, 0, 0,
            0, 0, 0, 0);
        int[] acc = {Integer.MAX_VALUE, Integer.MIN_VALUE + 1, 30, 23, 23, 5, 0, 0, -1, -1, -1};
        int[] place = {1, 2, 3, 4, 5, 6, 7, 8, 9, 11, 12};
        for (int i = 0; i < acc.length; i++) {
            due.is("step", x.run(1), 1);
            due.is("acc behind step " + i, x.look(r, 3), acc[i]);
            due.is("place behind step " + i, x.look(r, 2), place[i]);
        }
        due.is("stored", x.load(0, 1), 23);
        due.is("stopped", x.look(r, 1), 3);
        due.is("no fault", x.count(10), 0);
        due.is("nobody", x.run(5), 0);
        int s = Due.runner(x, 0, 1, 1, 0, 0, 3, -5, 0, 0);
        due.is("jump to nowhere is done", x.run(2), 2);
        due.is("place", x.look(s, 2), -5);
        due.is("no fault yet", x.count(10), 0);
        due.is("a place without a step", x.run(1), 1);
        due.is("a fault", x.count(10), 1);
    }

    // Terms 3: 6 to 14, 18, 19
    private static void actsAsSteps() {
        TokenHeart x = new TokenHeart();
        int r = Due.runner(x, 0,
            10, 0, 1, 1,
            10, 0, 0, 2,
            6, 2, 0, 3,
            7, 2, 5, 4,
            8, 2, 0, 5,
            9, 0, 33, 6,
            18, 2, 1, 7,
            19, 7, 1, 8,
            11, 3, 2, 0,
            12, 3, 2, 0,
            13, 2, 0, 0,
            14, 6, 0, 0,
            20, 2, 5, 0);
        due.is("up to the seal", x.run(9), 9);
        due.is("sealed", x.token(3, 7), 2);
        due.is("open", x.run(1), 1);
        due.is("not sealed", x.token(3, 7), -1);
        int[] kinds = {0, 0, 0, 1, 2, 3, 1, 1, 1};
        int[] slots = {0, 1, 2, 3, 4, 5, 6, 7, 8};
        for (int t = 0; t < 9; t++) {
            due.is("kind of token " + t, x.token(t, 0), kinds[t]);
            due.is("slot of token " + t, x.token(t, 6), slots[t]);
            due.is("box of token " + t, x.token(t, 5), t == 7 ? 1 : 0);
        }
        due.is("narrowed", x.token(4, 2), 5);
        due.is("parted", x.token(6, 3), 33);
        due.is("box", x.thing(1, 0), Due.BOX);
        due.is("page", x.thing(2, 0), Due.PAGE);
        due.is("take", x.run(1), 1);
        due.is("doomed", x.count(3), 5);
        due.is("drop", x.run(1), 1);
        due.is("room is back", x.token(0, 3), 910);
        due.is("3 were gone as the tick began", x.count(3), 2);
        due.is("no fault", x.count(10), 0);
        due.is("TILL is no step", x.run(1), 1);
        due.is("a fault", x.count(10), 1);
        due.is("place", x.look(r, 2), 12);
    }

    private static void faults() {
        TokenHeart x = new TokenHeart();
        x.act(0, Due.MAKE, 0, Due.bc(Due.GATE, 1));
        int[] none = {-1, 20, 21, 99};
        for (int what : none) {
            int r = Due.runner(x, 0, what, 1, 1, 2);
            due.is("a fault is a step", x.run(1), 1);
            due.is("stopped", x.look(r, 1), 3);
            due.is("place", x.look(r, 2), 0);
        }
        due.is("faults", x.count(10), 4);
        int w = Due.runner(x, 0, 16, 1, -1, -1, 0, 0, 0, 0);
        int v = Due.runner(x, 0, 16, 1, -1, -1, 0, 0, 0, 0);
        int f = Due.runner(x, 0, 4, 9, 0, 0);
        x.keeper(f, 1);
        due.is("two wait, one faults", x.run(3), 3);
        due.is("the least is woken", x.look(w, 1), 0);
        due.is("by 100 and the number", x.look(w, 3), 100 + f);
        due.is("place one more", x.look(w, 2), 1);
        due.is("at no gate", x.look(w, 5), -1);
        due.is("the other waits", x.look(v, 1), 1);
        due.is("faults", x.count(10), 5);
        due.is("it serves nobody", x.look(w, 7), -1);
        x.run(1);
        due.is("it goes on", x.look(w, 1), 3);
        due.is("STOP is no fault", x.count(10), 5);
    }
}
