/** Promises 5 to 10: thing, out, token, slot, below, isBelow; and what goes with what (Terms 1). */
public final class LookingTest {
    private static Due due = new Due();

    public static void main(String[] args) {
        thing();
        out();
        token();
        slot();
        below();
        roomGoesBack();
        thingsGo();
        boxesGo();
        pieces();
        due.end("LookingTest");
    }

    private static void thing() {
        TokenHeart x = new TokenHeart();
        x.act(0, Due.SPLIT, 0, Due.bc(100, 1));
        x.act(0, Due.MAKE, 1, Due.bc(Due.PAGE, 2));
        x.act(0, Due.LEND, 2, Due.bc(0, 3));
        x.store(0, 2, 44);
        int[] want = {0, 1, 44, 2, 0, 0};
        for (int what = 0; what < 6; what++) {
            due.is("thing(1, " + what + ")", x.thing(1, what), want[what]);
        }
        due.is("what 6", x.thing(1, 6), -7);
        due.is("what -1", x.thing(1, -1), -7);
        due.is("no thing 2", x.thing(2, 6), -3);
        due.is("no thing -1", x.thing(-1, 0), -3);
        due.is("no thing 40", x.thing(40, 0), -3);
        x.act(0, Due.DROP, 1, 0);
        due.is("that token is gone", x.thing(1, 1), -1);
        x.act(0, Due.SPLIT, 0, Due.bc(5, 1));
        due.is("another one has its number", x.slot(0, 1), 1);
        due.is("that is none", x.thing(1, 1), -1);
        x.act(0, Due.DROP, 2, 0);
        due.is("without one: the pool", x.count(4), 10);
        x.act(0, Due.MAKE, 0, Due.bc(Due.PAGE, 2));
        due.is("a new page is 0", x.thing(1, 2), 0);
        due.is("status(-7)", x.status(-7), 2);
        due.is("status(-3)", x.status(-3), 3);
    }

    private static void out() {
        TokenHeart x = new TokenHeart();
        x.act(0, Due.MAKE, 0, Due.bc(Due.LINE, 1));
        x.store(0, 1, 8);
        due.is("out", x.out(1, 0), 8);
        due.is("none refused", x.status(-3), 0);
        due.is("i beyond", x.out(1, 1), 0);
        due.is("i below 0", x.out(1, -1), 0);
        due.is("no thing", x.out(2, 0), 0);
        due.is("no thing", x.out(-1, 0), 0);
        due.is("status(-3)", x.status(-3), 4);
        due.is("a box is no line", x.out(0, -5), 0);
        due.is("whatever i is", x.out(0, 0), 0);
        due.is("status(-5)", x.status(-5), 2);
        x.act(0, Due.DROP, 1, 0);
        x.act(0, Due.MAKE, 0, Due.bc(Due.LINE, 1));
        due.is("a new line has none", x.thing(1, 4), 0);
        Due.rows(x, 0, 5, 6, 7);
        x.in(1, 0);
        x.load(0, 1);
        x.act(0, Due.DROP, 1, 0);
        x.act(0, Due.MAKE, 0, Due.bc(Due.LINE, 1));
        due.is("a new line has no IN", x.thing(1, 5), 0);
        due.is("nothing to load", x.load(0, 1), 0);
        x.act(0, Due.MAKE, 0, Due.bc(Due.LINE, 2));
        x.store(0, 2, 9);
        for (int i = 0; i < 32; i++) {
            x.store(0, 1, i + 100);
        }
        due.is("the rows of others stay", x.out(2, 0), 9);
    }

    private static void token() {
        TokenHeart x = new TokenHeart();
        x.act(0, Due.MAKE, 0, Due.bc(Due.PAGE, 4));
        x.act(0, Due.NARROW, 4, Due.bc(13, 6));
        x.act(0, Due.SEAL, 6, Due.bc(4, 0));
        x.act(0, Due.TILL, 4, Due.bc(9, 0));
        x.act(0, Due.TAKE, 4, 0);
        int[] want = {2, 1, 13, 0, 1, 0, 6, 1, -1, 1};
        for (int what = 0; what < 10; what++) {
            due.is("token(2, " + what + ")", x.token(2, what), want[what]);
        }
        due.is("last tick", x.token(1, 8), 9);
        due.is("what 10", x.token(2, 10), -7);
        due.is("what -1", x.token(2, -1), -7);
        due.is("no token 3", x.token(3, 10), -3);
        due.is("no token -1", x.token(-1, 0), -3);
        due.is("no token 120", x.token(120, 0), -3);
    }

    private static void slot() {
        TokenHeart x = new TokenHeart();
        x.act(0, Due.MAKE, 0, Due.bc(Due.PAGE, 9));
        due.is("slot(0, 9)", x.slot(0, 9), 1);
        due.is("slot(0, 8)", x.slot(0, 8), -1);
        due.is("none refused", x.status(-3), 0);
        due.is("slot 10", x.slot(0, 10), -3);
        due.is("slot -1", x.slot(0, -1), -3);
        due.is("a page is no box", x.slot(1, 0), -3);
        due.is("no box", x.slot(-1, 0), -3);
        due.is("no box", x.slot(40, 0), -3);
        due.is("status(-3)", x.status(-3), 5);
    }

    // Promises 9 and 10
    private static void below() {
        TokenHeart x = new TokenHeart();
        x.act(0, Due.MAKE, 0, Due.bc(Due.PAGE, 1));
        x.act(0, Due.LEND, 1, Due.bc(0, 2));
        x.act(0, Due.LEND, 2, Due.bc(0, 3));
        x.act(0, Due.LEND, 3, Due.bc(0, 4));
        x.act(0, Due.LEND, 1, Due.bc(0, 5));
        due.is("below(1)", x.below(1), 4);
        due.is("below(2)", x.below(2), 2);
        due.is("below(4)", x.below(4), 0);
        due.is("what is made isn't below", x.below(0), 0);
        due.is("isBelow(4, 1)", x.isBelow(4, 1), 1);
        due.is("isBelow(3, 2)", x.isBelow(3, 2), 1);
        due.is("isBelow(1, 4)", x.isBelow(1, 4), 0);
        due.is("isBelow(5, 2)", x.isBelow(5, 2), 0);
        due.is("isBelow(2, 2)", x.isBelow(2, 2), 0);
        due.is("isBelow(1, 0)", x.isBelow(1, 0), 0);
        due.is("none refused", x.status(-3), 0);
        due.is("below(6)", x.below(6), -3);
        due.is("below(-1)", x.below(-1), -3);
        due.is("below(120)", x.below(120), -3);
        due.is("isBelow(6, 1)", x.isBelow(6, 1), -3);
        due.is("isBelow(1, 6)", x.isBelow(1, 6), -3);
        due.is("isBelow(1, -1)", x.isBelow(1, -1), -3);
        due.is("isBelow(120, 1)", x.isBelow(120, 1), -3);
        due.is("status(-3)", x.status(-3), 7);
    }

    private static void roomGoesBack() {
        TokenHeart x = new TokenHeart();
        x.act(0, Due.SPLIT, 0, Due.bc(100, 1));
        x.act(0, Due.SPLIT, 1, Due.bc(30, 2));
        x.act(0, Due.SPLIT, 2, Due.bc(20, 3));
        x.act(0, Due.DROP, 2, 0);
        due.is("to its lender, with what was below", x.token(1, 3), 100);
        due.is("all below is gone", x.count(2), 2);
        x.act(0, Due.SPLIT, 1, Due.bc(30, 2));
        x.act(0, Due.MAKE, 2, Due.bc(Due.PAGE, 3));
        x.act(0, Due.DROP, 1, 0);
        due.is("to the lender of the lender", x.token(0, 3), 950);
        due.is("what was made of it stays", x.thing(1, 0), Due.PAGE);
        due.is("and was made of none", x.thing(1, 1), -1);
        x.act(0, Due.SPLIT, 0, Due.bc(50, 4));
        x.act(0, Due.DROP, 0, 0);
        due.is("without a lender to the pool", x.count(4), 950);
        x.act(0, Due.DROP, 3, 0);
        due.is("of a thing, too", x.count(4), 960);
        due.is("no token is left", x.count(2), 0);
        due.is("the first box never goes", x.thing(0, 0), Due.BOX);
        due.is("things", x.count(1), 1);
    }

    private static void thingsGo() {
        TokenHeart x = new TokenHeart();
        x.act(0, Due.MAKE, 0, Due.bc(Due.PAGE, 1));
        x.act(0, Due.NARROW, 1, Due.bc(15, 2));
        x.act(0, Due.MAKE, 0, Due.bc(Due.CLOCK, 3));
        x.act(0, Due.SEAL, 3, Due.bc(1, 0));
        due.is("another token of it", Due.read(x, "gets 0 1 r"), 1);
        x.act(0, Due.DROP, 1, 0);
        due.is("one is left", x.thing(1, 3), 1);
        due.is("the seal holds", x.token(3, 7), 1);
        x.act(0, Due.DROP, x.token(4, 6), 0);
        due.is("none is left", x.thing(1, 3), -3);
        due.is("by one that is gone", x.token(3, 7), 40);
        due.is("its room", x.token(0, 3), 959);
        x.act(0, Due.MAKE, 0, Due.bc(Due.PAGE, 1));
        due.is("another one has its number", x.thing(1, 0), Due.PAGE);
        due.is("the seal isn't its", x.token(3, 7), 40);
        due.is("it can't open it", x.act(0, Due.OPEN, 3, Due.bc(1, 0)), -7);
    }

    /** A box goes with all that is in it; the room of a thing goes to the token that is there still. */
    private static void boxesGo() {
        TokenHeart x = new TokenHeart();
        x.act(0, Due.MAKE, 0, Due.bc(Due.BOX, 1));
        x.act(0, Due.MAKE, 0, Due.bc(Due.PAGE, 2));
        x.act(0, Due.PUT, 2, Due.bc(1, 0));
        int r = Due.runner(x, 1, 1, 5, 0, 0);
        x.run(1);
        x.act(0, Due.DROP, 1, 0);
        due.is("gone", x.look(r, 1), 4);
        due.is("the number that it had", x.look(r, 0), 1);
        due.is("its place", x.look(r, 2), 1);
        due.is("what was lent", x.below(2), 0);
        due.is("its lender is there", x.thing(2, 3), 1);
        x.act(0, Due.MAKE, 0, Due.bc(Due.BOX, 1));
        due.is("a new one has its number", x.thing(1, 0), Due.BOX);
        due.is("the runner isn't in it", x.look(r, 1), 4);
        x.act(0, Due.MAKE, 0, Due.bc(Due.GATE, 3));
        x.act(0, Due.PUT, 3, Due.bc(1, 0));
        due.is("no keeper by its slots", x.keeper(r, 0), -7);
        due.is("none, of one that is gone", x.keeper(r, -1), 1);
        due.is("it never is ready", x.late(r), -1);
        due.is("not told", x.tell(r, 1), -7);
        due.is("not resumed", x.resume(r, 0), -7);
        boxInBox();
    }

    private static void boxInBox() {
        TokenHeart x = new TokenHeart();
        x.act(0, Due.MAKE, 0, Due.bc(Due.BOX, 1));
        Due.read(x, "gets 1 1 rwlt");
        x.act(0, Due.DROP, 1, 0);
        x.act(0, Due.MAKE, 0, Due.bc(Due.BOX, 1));
        Due.read(x, "gets 2 1 r;never 0 1 r;never 0 2 r;apart 0 1;apart 1 0;apart 0 0");
        x.act(1, Due.DROP, 0, 0);
        due.is("another one keeps it", x.thing(1, 3), 1);
        for (int i = 0; i < 5; i++) {
            due.is("wish " + i, x.show(i), i == 1 || i == 4 ? 0 : -1);
        }
        x.act(0, Due.DROP, 1, 0);
        due.is("both are gone", x.count(1), 1);
        due.is("both rooms are back", x.token(0, 3), 960);
        x.act(0, Due.MAKE, 0, Due.bc(Due.BOX, 1));
        x.act(0, Due.MAKE, 0, Due.bc(Due.BOX, 2));
        due.is("wishes of them hold, whatever has their numbers", x.show(0), -1);
        due.is("wishes of them hold, whatever has their numbers", x.show(1), -1);
    }

    /** As a tick begins the 3 with the least numbers go, each with all below it. */
    private static void pieces() {
        TokenHeart x = new TokenHeart();
        x.act(0, Due.MAKE, 0, Due.bc(Due.PAGE, 1));
        x.act(0, Due.LEND, 1, Due.bc(0, 2));
        x.act(0, Due.LEND, 2, Due.bc(0, 3));
        x.act(0, Due.LEND, 3, Due.bc(0, 4));
        x.act(0, Due.LEND, 2, Due.bc(0, 5));
        x.act(0, Due.LEND, 1, Due.bc(0, 6));
        x.act(0, Due.LEND, 1, Due.bc(0, 7));
        x.act(0, Due.DROP, 3, 0);
        x.act(0, Due.LEND, 6, Due.bc(0, 3));
        x.act(0, Due.LEND, 2, Due.bc(0, 4));
        due.is("tokens", x.count(2), 8);
        x.act(0, Due.TAKE, 1, 0);
        due.is("doomed", x.count(3), 6);
        x.run(1);
        // 2, 3, 4 are the least: with 2 go 4 (in slot 4) and 5, 3 is alone
        due.is("2 is gone", x.slot(0, 2), -1);
        due.is("those below it", x.slot(0, 4), -1);
        due.is("those below it", x.slot(0, 5), -1);
        due.is("doomed", x.count(3), 2);
        x.run(1);
        due.is("all are gone", x.count(2), 2);
        tokenZero();
    }

    /** The number of the first token is a number as any other. */
    private static void tokenZero() {
        TokenHeart x = new TokenHeart();
        x.act(0, Due.MAKE, 0, Due.bc(Due.PAGE, 1));
        x.act(0, Due.MAKE, 0, Due.bc(Due.PAGE, 2));
        x.act(0, Due.DROP, 0, 0);
        x.act(0, Due.LEND, 1, Due.bc(0, 3));
        due.is("the least number", x.slot(0, 3), 0);
        due.is("below", x.below(1), 1);
        x.act(0, Due.SEAL, 3, Due.bc(2, 0));
        x.act(0, Due.DROP, 2, 0);
        due.is("its seal", x.token(0, 7), 40);
        x.act(0, Due.TAKE, 1, 0);
        due.is("doomed", x.token(0, 9), 1);
        due.is("doomed", x.count(3), 1);
        x.run(1);
        due.is("gone", x.slot(0, 3), -1);
        x.act(0, Due.LEND, 1, Due.bc(0, 3));
        x.act(0, Due.LEND, 3, Due.bc(0, 4));
        due.is("below 0", x.below(0), 1);
        x.act(0, Due.DROP, 3, 0);
        due.is("gone with it", x.slot(0, 4), -1);
        x.act(0, Due.LEND, 1, Due.bc(0, 3));
        x.act(0, Due.DROP, 1, 0);
        due.is("all are gone", x.count(2), 0);
        due.is("and the page", x.count(1), 1);
        due.is("room in all", x.count(4), 960);
    }
}
