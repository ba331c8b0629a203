/** Promises 24 to 32: could, when, show, feed, wipe, text, count, image, back. */
public final class WiresTest {
    private static Due due = new Due();

    public static void main(String[] args) {
        refusals();
        held();
        gates();
        boxes();
        roundsOneByOne();
        sealed();
        wishes();
        feed();
        textFaults();
        textDone();
        textNotDone();
        count();
        images();
        due.end("WiresTest");
    }

    /** Boxes 1 .. n and things of these kinds behind them, all by tokens of box 0 from slot 1 on. */
    private static TokenHeart with(int boxes, int... kinds) {
        TokenHeart x = new TokenHeart();
        for (int i = 0; i < boxes; i++) {
            x.act(0, Due.MAKE, 0, Due.bc(Due.BOX, 1 + i));
        }
        for (int i = 0; i < kinds.length; i++) {
            x.act(0, Due.MAKE, 0, Due.bc(kinds[i], 1 + boxes + i));
        }
        return x;
    }

    private static void refusals() {
        TokenHeart x = with(1, Due.PAGE);
        due.is("could, no box", x.could(3, 0), -3);
        due.is("could, a page", x.could(2, 0), -3);
        due.is("could, no thing", x.could(0, 3), -3);
        due.is("could, no thing", x.could(0, -1), -3);
        due.is("could, no thing", x.could(-1, 40), -3);
        due.is("when, no box", x.when(2, 0, 0), -3);
        due.is("when, no thing", x.when(0, 40, 0), -3);
        due.is("when, no rights", x.when(0, 0, 0), -7);
        due.is("when, rights 16", x.when(0, 0, 16), -7);
        due.is("when, rights -1", x.when(0, 0, -1), -7);
        due.is("when, all", x.when(0, 1, 15), 0);
        due.is("show, no wish", x.show(0), -3);
        due.is("show, no wish", x.show(-1), -3);
        due.is("show, no wish", x.show(20), -3);
        due.is("status(-3)", x.status(-3), 10);
    }

    private static void held() {
        TokenHeart x = with(0, Due.PAGE, Due.PAGE);
        due.is("held now", x.could(0, 1), 15);
        due.is("room isn't held", x.could(0, 0), 0);
        due.is("never", x.when(0, 0, 1), -1);
        TokenHeart y = with(0, Due.PAGE, Due.PAGE);
        y.act(0, Due.DROP, 0, 0);
        due.is("token 0", Due.read(y, "gets 0 1 rl"), 1);
        y.act(0, Due.DROP, 1, 0);
        due.is("by token 0", y.when(0, 1, 5), 0);
        y.act(0, Due.SEAL, 0, Due.bc(2, 0));
        due.is("token 0 is sealed", y.when(0, 1, 5), 1);
        x.act(0, Due.NARROW, 1, Due.bc(1, 3));
        x.act(0, Due.NARROW, 2, Due.bc(2, 4));
        x.act(0, Due.NARROW, 2, Due.bc(4, 5));
        x.act(0, Due.TILL, 3, Due.bc(0, 0));
        x.run(5);
        due.is("last ticks are left out", x.could(0, 1), 15);
        x.act(0, Due.TAKE, 1, 0);
        x.act(0, Due.DROP, 1, 0);
        due.is("gone", x.could(0, 1), -3);
        x.act(0, Due.TAKE, 2, 0);
        due.is("doomed ones don't count", x.could(0, 2), 15);
        x = with(1, Due.PAGE);
        x.act(0, Due.NARROW, 2, Due.bc(5, 3));
        x.act(0, Due.PUT, 3, Due.bc(1, 0));
        due.is("lent", x.when(1, 2, 5), 0);
        x.act(0, Due.TAKE, 2, 0);
        x.act(0, Due.NARROW, 1, Due.bc(0, 4));
        due.is("doomed, but box 0 could lend it again", x.when(1, 2, 5), 1);
        due.is("all of it", x.when(1, 2, 15), 1);
    }

    // X could hold WRITE, Y READ of a gate: both get what the other could LEND
    private static void gates() {
        TokenHeart x;
        for (int kind = Due.GATE; kind <= Due.PROMISE; kind++) {
            x = wired(kind, "gets 1 3 w;gets 2 3 r;gets 1 4 lr;gets 2 5 lt;gets 1 6 rwt");
            due.is("to the one that reads", x.could(2, 4), 5);
            due.is("in round 1", x.when(2, 4, 5), 1);
            due.is("to the one that writes", x.could(1, 5), 12);
            due.is("what can't be lent isn't", x.could(2, 6), 0);
            due.is("it is held", x.could(1, 6), 11);
            due.is("not the gate", x.could(2, 3), 1);
        }
        x = wired(Due.PAGE, "gets 1 3 w;gets 2 3 r;gets 1 4 lr");
        due.is("a page is no gate", x.could(2, 4), 0);
        x = wired(Due.GATE, "gets 1 3 wl;gets 2 3 w;gets 1 4 lr");
        due.is("nobody reads", x.could(2, 4), 0);
        x = wired(Due.GATE, "gets 1 3 r;gets 2 3 r;gets 1 4 lr");
        due.is("nobody writes", x.could(2, 4), 0);
    }

    /**
     * Boxes 1, 2, thing 3 of a kind, pages 4 .. 6 and box 7, wired so. All of them are kept by tokens
     * of TAKE alone, in box 7: none of the ways is by TAKE. Box 0 holds nothing of them.
     */
    private static TokenHeart wired(int kind, String text) {
        TokenHeart x = new TokenHeart();
        int[] kinds = {Due.BOX, Due.BOX, kind, Due.PAGE, Due.PAGE, Due.PAGE, Due.BOX};
        for (int i = 0; i < kinds.length; i++) {
            x.act(0, Due.MAKE, 0, Due.bc(kinds[i], 1 + i));
        }
        StringBuilder keep = new StringBuilder("gets 7 1 t");
        for (int i = 2; i <= 7; i++) {
            keep.append(";gets 7 ").append(i).append(" t");
        }
        due.is("kept", Due.read(x, keep.toString()), 7);
        for (int i = 1; i <= 7; i++) {
            x.act(0, Due.DROP, i, 0);
        }
        due.is("wired", Due.read(x, text) > 0 ? 1 : 0, 1);
        return x;
    }

    private static void boxes() {
        TokenHeart x = wired(Due.GATE, "gets 1 2 w;gets 1 4 lr;gets 2 5 lr;gets 1 6 w");
        due.is("WRITE of a box: it comes to hold", x.when(2, 4, 5), 1);
        due.is("not what can't be lent", x.could(2, 6), 0);
        due.is("not the other way", x.could(1, 5), 0);
        due.is("not the box", x.could(2, 2), 0);
        x = wired(Due.GATE, "gets 1 2 r;gets 1 4 lr;gets 2 5 lrt;gets 2 6 w");
        due.is("READ of a box: one comes to hold", x.when(1, 5, 13), 1);
        due.is("not what can't be lent", x.could(1, 6), 0);
        due.is("not the other way", x.could(2, 4), 0);
        x = wired(Due.GATE, "gets 1 2 lt;gets 1 4 lr;gets 2 5 lrt");
        due.is("neither", x.could(1, 5) + x.could(2, 4), 0);
        x = wired(Due.GATE, "gets 1 0 w;gets 1 4 lr;gets 2 0 r;gets 0 5 lw");
        due.is("WRITE of box 0", x.when(0, 4, 5), 1);
        due.is("READ of box 0", x.when(2, 5, 6), 1);
        due.is("by two of them", x.when(2, 4, 5), 2);
        x = wired(Due.GATE, "gets 1 1 rw;gets 1 4 lr;gets 1 4 w");
        due.is("of itself", x.could(1, 4), 7);
    }

    /** All at once by what could be held in the round before. */
    private static void roundsOneByOne() {
        TokenHeart x = wired(Due.GATE, "gets 1 2 wl;gets 2 7 w;gets 1 4 lr;gets 1 5 w;gets 7 5 l");
        due.is("round 0", x.when(1, 4, 5), 0);
        due.is("round 1", x.when(2, 4, 5), 1);
        due.is("round 2", x.when(7, 4, 1), 2);
        due.is("round 2, with what it had", x.when(7, 4, 13), 2);
        due.is("the right to the box is lent", x.when(2, 2, 6), 1);
        due.is("and so on", x.when(7, 2, 6), 2);
        due.is("then that lends, too", x.when(2, 5, 4), 3);
        x = wired(Due.GATE, "gets 1 2 rl;gets 2 7 r;gets 7 4 lw;gets 1 4 t;gets 7 3 l");
        due.is("round 1", x.when(2, 4, 6), 1);
        due.is("round 2", x.when(1, 4, 6), 2);
        due.is("all of it together", x.when(1, 4, 14), 2);
        due.is("never", x.when(1, 4, 15), -1);
    }

    private static void sealed() {
        TokenHeart x = with(0, Due.PAGE, Due.CLOCK, Due.PAGE);
        x.act(0, Due.SEAL, 1, Due.bc(2, 0));
        due.is("READ of what seals it is held in round 0", x.when(0, 1, 1), 1);
        due.is("all", x.could(0, 1), 15);
        x.act(0, Due.SEAL, 2, Due.bc(3, 0));
        due.is("one behind the other", x.when(0, 1, 1), 2);
        x.act(0, Due.SEAL, 3, Due.bc(3, 0));
        due.is("by itself: never", x.when(0, 3, 1), -1);
        due.is("never", x.could(0, 1), 0);
        due.is("another token of it", Due.read(x, "gets 0 3 w"), 1);
        due.is("without READ", x.could(0, 1), 0);
        due.is("with READ", Due.read(x, "gets 0 3 r"), 1);
        due.is("itself", x.when(0, 3, 13), 1);
        due.is("then that", x.when(0, 2, 15), 1);
        due.is("then that", x.when(0, 1, 15), 2);
        x = with(0, Due.PAGE, Due.CLOCK);
        x.act(0, Due.SEAL, 1, Due.bc(2, 0));
        x.act(0, Due.DROP, 2, 0);
        due.is("by one that is gone: never", x.could(0, 1), 0);
        x.act(0, Due.MAKE, 0, Due.bc(Due.CLOCK, 2));
        due.is("whatever has its number", x.could(0, 1), 0);
        x = with(1, Due.PAGE, Due.PAGE, Due.PAGE);
        x.act(0, Due.SEAL, 2, Due.bc(3, 0));
        due.is("another box has what seals it", x.act(0, Due.PUT, 3, Due.bc(1, 0)), 1);
        x.act(0, Due.LEND, 2, Due.bc(0, 5));
        due.is("sealed", x.slot(0, 5), -1);
        due.is("box 1 gets what box 0 could open", x.when(1, 2, 15), 2);
    }

    // Promise 26
    private static void wishes() {
        TokenHeart x = wired(Due.GATE, "gets 1 2 w;gets 1 4 lr;gets 2 5 lr;gets 1 6 t;gets 2 6 rwl");
        due.is("wishes", Due.read(x, "never 2 4 w;never 2 4 r;never 1 4 rw;apart 1 2;never 2 4 wt"), 5);
        due.is("wishes", Due.read(x, "apart 0 1;apart 2 2;never 0 4 rwlt;apart 7 1"), 4);
        int[] want = {-1, 1, 0, 1, -1, -1, 0, -1, -1};
        for (int i = 0; i < want.length; i++) {
            due.is("show(" + i + ")", x.show(i), want[i]);
        }
        due.is("none refused", x.status(-3), 0);
        due.is("show(9)", x.show(9), -3);
        x.act(7, Due.DROP, 4, 0);
        x.act(2, Due.DROP, 0, 0);
        due.is("that was of page 5", x.thing(5, 0), -3);
        x.act(1, Due.DROP, 1, 0);
        due.is("it holds now", x.show(1), -1);
        due.is("READ, WRITE, LEND of one thing: any of them", Due.read(x, "gets 1 6 w"), 1);
        due.is("apart", x.show(3), 0);
        x = wired(Due.PAGE, "gets 1 0 r;gets 2 0 w;apart 1 2");
        due.is("apart, of thing 0", x.show(0), 0);
        String[] rights = {"r", "w", "l", "t"};
        for (String a : rights) {
            for (String b : rights) {
                x = wired(Due.PAGE, "gets 1 5 " + a + ";gets 2 5 " + b + ";apart 1 2;apart 2 1");
                int want1 = a.equals("t") || b.equals("t") ? -1 : 0;
                due.is("apart with " + a + ", " + b, x.show(0), want1);
                due.is("apart with " + b + ", " + a, x.show(1), want1);
            }
        }
    }

    // Promises 27 and 28
    private static void feed() {
        TokenHeart x = new TokenHeart();
        due.is("n -1", x.feed(0, -1), -4);
        due.is("n 5", x.feed(0, 5), -7);
        due.is("n 0", x.feed(77, 0), 0);
        due.is("n as low as it can be", x.feed(0, Integer.MIN_VALUE), -4);
        due.is("the lowest", x.feed(0x616161 << 8 | 'g', 1), 1);
        due.is("the highest first", x.feed('e' << 16 | 't' << 8 | 's', 3), 4);
        due.is("text is gets", x.text(), -14);
        due.is("wipe", x.wipe(), 4);
        due.is("wipe", x.wipe(), 0);
        for (int i = 1; i <= 39; i++) {
            due.is("feed", x.feed(0x20202020, 4), 4 * i);
        }
        due.is("158", x.feed(0, 2), 158);
        due.is("full", x.feed(0, 3), -8);
        due.is("full", x.feed(0, 4), -8);
        due.is("n 5 isn't full", x.feed(0, 5), -7);
        due.is("160", x.feed(0, 2), 160);
        due.is("full", x.feed(0, 1), -8);
        due.is("none more", x.feed(0, 0), 160);
        due.is("bytes", x.count(7), 160);
        due.is("FAULT at a blank", x.text(), -10);
        due.is("the tape stays", x.wipe(), 160);
        due.is("byte 255", x.feed(-1, 4), 4);
        due.is("is none", x.text(), -10);
    }

    private static void fault(String text, int place) {
        TokenHeart x = with(1);
        due.is("text '" + text + "'", Due.read(x, text), -10 - place);
        due.is("the tape stays", x.wipe(), text.length());
        due.is("a FAULT isn't refused", x.status(-7), 0);
        due.is("nothing is done", x.count(2) + x.count(6), 2);
    }

    // Promise 29
    private static void textFaults() {
        fault("", 0);
        fault(" ", 0);
        fault("x", 0);
        fault("Gets 1 1 r", 0);
        fault("g", 1);
        fault("get", 3);
        fault("gett", 3);
        fault("gets", 4);
        fault("gets1", 4);
        fault("gets;", 4);
        fault("gets ", 5);
        fault("gets x", 5);
        fault("gets -1 1 r", 5);
        fault("gets 1", 6);
        fault("gets 1;", 6);
        fault("gets 123", 7);
        fault("gets 12x", 7);
        fault("gets 1  ", 8);
        fault("gets 1 r", 7);
        fault("gets 1 1", 8);
        fault("gets 1 1r", 8);
        fault("gets 1 111 r", 9);
        fault("gets 1 1 ", 9);
        fault("gets 1 1 m", 9);
        fault("gets 1 1 R", 9);
        fault("gets 1 1 1", 9);
        fault("gets 1 1 rr", 10);
        fault("gets 1 1 rwltr", 13);
        fault("gets 1 1 rx", 10);
        fault("gets 1 1 r ", 10);
        fault("gets 1 1 r;", 11);
        fault("gets 1 1 r; gets 1 1 r", 11);
        fault("gets 1 1 r ;gets 1 1 r", 10);
        fault("gets 1 1 r;;", 11);
        fault(" gets 1 1 r", 0);
        fault("gets\t1 1 r", 4);
        fault("never 1 1", 9);
        fault("nevr 1 1 r", 3);
        fault("never 1 1 r w", 11);
        fault("apart 1 1 r", 9);
        fault("apart 1", 7);
        fault("apart 1 1;", 10);
        fault("apart 1 100", 10);
        fault("apart 1 1;apart 0 0;g", 21);
        fault("apart  1   1  ", 12);
        fault("gets 1 1 r\u0000", 10);
        fault("gets 99 99 r;x", 13);
    }

    private static void textDone() {
        TokenHeart x = with(1, Due.PAGE);
        due.is("one", Due.read(x, "gets 1 2 r"), 1);
        due.is("the tape is empty", x.wipe(), 0);
        int[] want = {0, 2, 1, 0, -1, 1, 0, -1, -1, 0};
        for (int what = 0; what < 10; what++) {
            due.is("token(3, " + what + ")", x.token(3, what), want[what]);
        }
        due.is("three", Due.read(x, "gets 01 02 tlwr;never   1 2    w;apart 0  1"), 3);
        due.is("all rights", x.token(4, 2), 15);
        due.is("the first empty slot", x.token(4, 6), 1);
        due.is("wishes", x.count(6), 2);
        x.act(1, Due.DROP, 0, 0);
        due.is("again", Due.read(x, "gets 1 2 w"), 1);
        due.is("the least number, the first slot", x.slot(1, 0), 3);
        due.is("rights", x.token(3, 2), 2);
        due.is("lt", Due.read(x, "gets 1 0 lt;gets 1 0 l"), 2);
        due.is("rights", x.token(5, 2), 12);
        due.is("rights", x.token(6, 2), 4);
        due.is("none refused", x.status(-7), 0);
        StringBuilder many = new StringBuilder("apart 0 0");
        for (int i = 0; i < 15; i++) {
            many.append(";apart 0 0");
        }
        due.is("16 on a full tape", Due.read(x, many.append(' ').toString().trim()), 16);
        due.is("wishes", x.count(6), 18);
    }

    private static void notDone(TokenHeart x, String text) {
        int tokens = x.count(2);
        int wishes = x.count(6);
        int refused = x.status(-7);
        due.is("text '" + text + "'", Due.read(x, text), -7);
        due.is("the tape stays", x.count(7), text.length());
        due.is("no token", x.count(2), tokens);
        due.is("no wish", x.count(6), wishes);
        due.is("refused", x.status(-7), refused + 1);
    }

    private static void textNotDone() {
        TokenHeart x = with(1, Due.PAGE);
        notDone(x, "gets 2 1 r");
        notDone(x, "gets 9 1 r");
        notDone(x, "gets 1 3 r");
        notDone(x, "gets 1 99 r");
        notDone(x, "never 2 1 r");
        notDone(x, "never 1 40 r");
        notDone(x, "apart 1 2");
        notDone(x, "apart 2 1");
        notDone(x, "apart 40 1");
        notDone(x, "gets 1 2 r;gets 1 2 w;never 1 2 r;apart 1 2");
        due.is("slots stay empty", x.slot(1, 0), -1);
        for (int i = 0; i < 10; i++) {
            due.is("slot " + i, Due.read(x, "gets 1 2 r"), 1);
        }
        notDone(x, "gets 1 2 r");
        notDone(x, "apart 0 0;gets 1 2 r");
        due.is("10 wishes", Due.read(x, "apart 0 0;apart 0 0;apart 0 0;apart 0 0;apart 0 0;"
            + "never 0 0 r;never 0 0 r;never 0 0 r;never 0 0 r;never 0 0 r"), 10);
        due.is("9 wishes", Due.read(x, "apart 0 0;apart 0 0;apart 0 0;apart 0 0;apart 0 0;"
            + "never 0 0 r;never 0 0 r;never 0 0 r;never 0 0 r"), 9);
        notDone(x, "apart 0 0;apart 0 0");
        due.is("the twentieth", Due.read(x, "apart 0 1"), 1);
        notDone(x, "never 0 0 r");
        due.is("show(19)", x.show(19), 0);
    }

    // Promise 30
    private static void count() {
        TokenHeart x = with(1, Due.GATE);
        x.act(0, Due.LEND, 2, Due.bc(0, 3));
        x.act(0, Due.LEND, 2, Due.bc(0, 4));
        Due.runner(x, 0, 9, 9, 9, 9);
        Due.runner(x, 1, 0, 0, 0, 0);
        Due.rows(x, 0, 1, 1, 1);
        x.time(0);
        x.run(3);
        x.act(0, Due.TAKE, 2, 0);
        due.is("wish", Due.read(x, "apart 0 1"), 1);
        x.feed(0, 3);
        x.rule(1);
        x.act(0, Due.SPLIT, 0, Due.bc(400, 5));
        x.act(0, Due.MAKE, 5, Due.bc(Due.PAGE, 6));
        x.act(0, Due.DROP, 0, 0);
        int[] want = {3, 4, 5, 2, 950 - 45, 2, 1, 3, 1, 1, 1, 3};
        for (int what = 0; what < 12; what++) {
            due.is("count(" + what + ")", x.count(what), want[what]);
        }
        due.is("count(12)", x.count(12), -7);
        due.is("count(-1)", x.count(-1), -7);
    }

    // Promises 31 and 32
    private static void images() {
        TokenHeart x = with(1, Due.LINE, Due.GATE);
        due.is("none", x.back(), -2);
        Due.rows(x, 0, 1, 2, 3);
        x.in(2, 0);
        x.time(0);
        x.store(0, 2, 50);
        Due.runner(x, 0, 16, 3, -1, -1);
        x.keeper(0, 3);
        Due.read(x, "never 0 2 r");
        x.run(4);
        due.is("image", x.image(), 4);
        x.load(0, 2);
        x.store(0, 2, 51);
        Due.rows(x, 0, 9);
        x.time(0);
        x.lay(2);
        x.feed(1, 1);
        x.rule(1);
        x.act(0, Due.DROP, 1, 0);
        x.act(0, Due.DROP, 3, 0);
        Due.runner(x, 0, 0, 0, 0, 0);
        Due.read(x, "apart 0 0");
        x.feed(1, 1);
        x.run(5);
        x.act(0, 99, 0, 0);
        due.is("back", x.back(), 4);
        due.is("thing", x.thing(1, 0), 1);
        due.is("in", x.thing(2, 5), 3);
        due.is("next of in", x.load(0, 2), 1);
        due.is("out", x.thing(2, 4), 1);
        due.is("of out", x.out(2, 0), 50);
        int[] want = {4, 4, 4, 0, 0, 1, 1, 1, 0, 0, 0, 3};
        for (int what = 0; what < 12; what++) {
            due.is("back: count(" + what + ")", x.count(what), want[what]);
        }
        due.is("its state", x.look(0, 1), 1);
        due.is("its keeper", x.look(0, 4), 3);
        due.is("its gate", x.look(0, 5), 3);
        due.is("its step", x.step(0, 0, 0), 16);
        due.is("the wish", x.show(0), 0);
        due.is("a sheet stays", x.set(0, 0, 9), 9);
        due.is("the row stays", x.tear(), 1);
        due.is("the status stays", x.status(-5), 1);
        x.run(2);
        due.is("again", x.back(), 4);
        x.run(1);
        due.is("another image", x.image(), 5);
        x.run(1);
        due.is("back to that", x.back(), 5);
        imageOfRows();
        imageOfCalls();
        imageOfWaitingCalls();
        imageOfNone();
    }

    private static void imageOfRows() {
        TokenHeart x = with(0, Due.PAGE, Due.PAGE, Due.PAGE, Due.PAGE, Due.LINE);
        Due.rows(x, 0, 1, 2, 3);
        Due.rows(x, 1, 4, 5);
        x.in(5, 0);
        x.store(0, 5, 50);
        Due.rows(x, 2, 0, -1);
        x.time(2);
        x.rule(1);
        Due.runner(x, 0, 2, 1, 0, 0, 3, 0, 0, 0);
        x.image();
        x.act(0, Due.DROP, 5, 0);
        x.act(0, Due.MAKE, 0, Due.bc(Due.LINE, 5));
        x.in(5, 1);
        x.store(0, 5, 60);
        Due.rows(x, 2, -1, 0);
        x.time(2);
        x.back();
        due.is("out", x.out(5, 0), 50);
        due.is("how many of in", x.thing(5, 5), 3);
        due.is("in", x.load(0, 5), 1);
        due.is("the row of time", x.run(1), 1);
        due.is("the row of time", x.run(1), 0);
    }

    private static void imageOfCalls() {
        TokenHeart x = with(0, Due.GATE, Due.PAGE);
        int first = Due.runner(x, 0, 15, 1, -1, 5, 15, 1, 2, -1);
        int second = Due.runner(x, 0, 15, 1, 2, -1, 15, 1, -1, -1);
        int server = Due.runner(x, 0, 16, 1, 6, -1, 17, 0, 2, -1, 3, 0, 0, 0, 16, 1, 6, -1, 17, 0, -1, -1);
        x.tell(first, 1);
        x.run(3);
        due.is("it serves", x.look(server, 7), first);
        x.image();
        x.run(5);
        x.back();
        due.is("who serves it", x.look(first, 6), server);
        due.is("whom it serves", x.look(server, 7), first);
        due.is("the other calls", x.look(second, 1), 2);
        x.run(1);
        due.is("the answer comes to the slot told then", x.slot(0, 5) >= 0 ? 1 : 0, 1);
        x.run(1);
        due.is("the first calls again", x.look(first, 1), 2);
        x.image();
        x.run(2);
        due.is("what the second lends", x.token(x.slot(0, 6), 1), 2);
        due.is("it called longer", x.look(server, 7), second);
        x.back();
        x.run(2);
        due.is("again", x.look(server, 7), second);
        due.is("again", x.token(x.slot(0, 6), 1), 2);
    }

    /** Who called longest, and with what, is as it was then. */
    private static void imageOfWaitingCalls() {
        TokenHeart x = with(0, Due.GATE, Due.PAGE);
        int first = Due.runner(x, 0, 15, 1, -1, -1, 15, 1, -1, -1);
        int second = Due.runner(x, 0, 15, 1, 2, -1, 15, 1, -1, -1);
        int server = Due.runner(x, 0, 16, 1, 6, -1, 17, 0, -1, -1, 16, 1, -1, -1, 17, 0, -1, -1);
        int[] order = {second, first, server, server, server, server, first, second};
        Due.rows(x, 0, order);
        x.time(0);
        x.rule(1);
        x.run(2);
        x.image();
        due.is("all of them", x.run(6), 6);
        due.is("both call again", x.look(first, 1) + x.look(second, 1), 4);
        x.back();
        x.run(1);
        due.is("the second called first then", x.look(server, 7), second);
        due.is("with the page", x.token(x.slot(0, 6), 1), 2);
    }

    /** What comes behind the image is all gone, whatever had its numbers. */
    private static void imageOfNone() {
        TokenHeart x = with(0, Due.GATE);
        x.image();
        int r = Due.runner(x, 0, 1, 5, 0, 0, 16, 1, -1, -1);
        x.keeper(r, 1);
        x.run(3);
        due.is("wish", Due.read(x, "never 0 1 rwl"), 1);
        x.act(0, Due.DROP, 1, 0);
        x.back();
        due.is("no runner", x.look(0, 1), -3);
        due.is("no wish", x.show(0), -3);
        due.is("another one", Due.runner(x, 0, 0, 0, 0, 0), 0);
        int[] want = {0, 0, 0, 0, -1, -1, -1, -1, 1};
        for (int what = 0; what < 9; what++) {
            due.is("new: look(0, " + what + ")", x.look(0, what), want[what]);
        }
        due.is("another wish", Due.read(x, "never 0 1 t"), 1);
        due.is("is not over", x.show(0), 0);
    }
}
