/** Promises 2 to 4: acts by hand, load, store. */
public final class ActsTest {
    private static Due due = new Due();

    public static void main(String[] args) {
        refusals();
        lend();
        narrow();
        once();
        split();
        make();
        sealAndOpen();
        take();
        drop();
        putAndGet();
        till();
        loadAndStore();
        lines();
        due.end("ActsTest");
    }

    /** A page as thing 1 by token 1 in slot 1 of box 0. */
    private static TokenHeart withPage() {
        TokenHeart x = new TokenHeart();
        due.is("make a page", x.act(0, Due.MAKE, 0, Due.bc(Due.PAGE, 1)), 1);
        return x;
    }

    private static void refusals() {
        TokenHeart x = withPage();
        due.is("no such box", x.act(40, Due.DROP, 1, 0), -3);
        due.is("no such box", x.act(-1, 99, 1, -1), -3);
        due.is("a page is no box", x.act(1, Due.DROP, 1, 0), -3);
        int[] none = {-1, 0, 1, 2, 3, 4, 5, 15, 16, 17, 21, 99};
        for (int what : none) {
            due.is("act " + what + " is none, ahead of bc", x.act(0, what, 1, -1), -5);
        }
        due.is("bc below 0", x.act(0, Due.DROP, 1, -1), -7);
        due.is("bc far below 0", x.act(0, Due.DROP, 1, Integer.MIN_VALUE), -7);
        due.is("bc as high as it can be", x.act(0, Due.SPLIT, 0, Integer.MAX_VALUE), -7);
        int[] all = {6, 7, 8, 9, 10, 11, 12, 13, 14, 18, 19, 20};
        for (int what : all) {
            due.is("act " + what + " on a slot beyond", x.act(0, what, 10, Due.bc(1, 2)), -7);
            due.is("act " + what + " on slot -1", x.act(0, what, -1, Due.bc(1, 2)), -7);
            due.is("act " + what + " on an empty slot", x.act(0, what, 9, Due.bc(1, 2)), -7);
        }
        due.is("status(-3)", x.status(-3), 3);
        due.is("status(-5)", x.status(-5), 12);
        due.is("status(-7)", x.status(-7), 39);
        due.is("tokens", x.count(2), 2);
    }

    private static void lend() {
        TokenHeart x = withPage();
        x.act(0, Due.TILL, 1, Due.bc(7, 0));
        due.is("lend; b isn't looked at", x.act(0, Due.LEND, 1, Due.bc(-1, 2)), 1);
        int[] want = {1, 1, 15, 0, 1, 0, 2, -1, 7, 0};
        for (int what = 0; what < 10; what++) {
            due.is("lent: token(2, " + what + ")", x.token(2, what), want[what]);
        }
        due.is("lend to a slot that isn't empty", x.act(0, Due.LEND, 1, Due.bc(0, 2)), -7);
        due.is("lend to its own slot", x.act(0, Due.LEND, 1, Due.bc(0, 1)), -7);
        due.is("lend to slot -1", x.act(0, Due.LEND, 1, Due.bc(0, -1)), -7);
        due.is("lend to slot 10", x.act(0, Due.LEND, 1, Due.bc(0, 10)), -7);
        due.is("lend to slot 9", x.act(0, Due.LEND, 1, Due.bc(0, 9)), 1);
        due.is("room can't be lent", x.act(0, Due.LEND, 0, Due.bc(0, 3)), -7);
        due.is("narrowed to LEND", x.act(0, Due.NARROW, 1, Due.bc(4, 3)), 1);
        due.is("lend by LEND alone", x.act(0, Due.LEND, 3, Due.bc(0, 4)), 1);
        due.is("narrowed to the others", x.act(0, Due.NARROW, 1, Due.bc(11, 5)), 1);
        due.is("lend without LEND", x.act(0, Due.LEND, 5, Due.bc(0, 6)), -7);
        x.run(7);
        due.is("its last tick", x.act(0, Due.LEND, 1, Due.bc(0, 6)), 1);
        x.run(1);
        due.is("behind its last tick", x.act(0, Due.LEND, 1, Due.bc(0, 7)), -7);
        noTokenLeft();
    }

    /** Boxes 1 .. n, each of which holds itself; slot 9 of box 0 stays empty. */
    private static TokenHeart withBoxes(int n) {
        TokenHeart x = new TokenHeart();
        for (int b = 1; b <= n; b++) {
            due.is("box " + b, x.act(0, Due.MAKE, 0, Due.bc(Due.BOX, 9)), 1);
            due.is("holds itself", Due.read(x, "gets " + b + " " + b + " rwlt"), 1);
            due.is("alone", x.act(0, Due.DROP, 9, 0), 1);
        }
        return x;
    }

    private static void noTokenLeft() {
        TokenHeart x = withBoxes(12);
        for (int i = x.count(2); i < 120; i++) {
            due.is("token " + i, Due.read(x, "gets " + (i - 13) / 9 + " 0 rwl"), 1);
        }
        due.is("tokens", x.count(2), 120);
        due.is("none to lend", x.act(12, Due.LEND, 0, Due.bc(0, 9)), -7);
        due.is("none to narrow", x.act(12, Due.NARROW, 0, Due.bc(1, 9)), -7);
        due.is("none for once", x.act(12, Due.ONCE, 0, Due.bc(0, 9)), -7);
        due.is("none to put", x.act(12, Due.PUT, 0, Due.bc(0, 9)), -7);
        due.is("none to get", x.act(12, Due.GET, 0, Due.bc(0, 9)), -7);
        due.is("none to be got", Due.read(x, "gets 12 0 r"), -7);
        x.act(0, Due.DROP, 9, 0);
        due.is("one is free", x.act(0, Due.SPLIT, 0, Due.bc(90, 9)), 1);
        x.act(0, Due.DROP, 8, 0);
        due.is("room is parted into it", x.act(0, Due.SPLIT, 0, Due.bc(90, 8)), 1);
        due.is("none to make", x.act(0, Due.MAKE, 8, Due.bc(0, 7)), -7);
        x.act(0, Due.DROP, 7, 0);
        due.is("tokens", x.count(2), 119);
        due.is("one to make", x.act(0, Due.MAKE, 8, Due.bc(0, 7)), 1);
    }

    private static void narrow() {
        TokenHeart x = withPage();
        due.is("narrow", x.act(0, Due.NARROW, 1, Due.bc(5, 2)), 1);
        due.is("its kind", x.token(2, 0), 2);
        due.is("its rights", x.token(2, 2), 5);
        due.is("its lender", x.token(2, 4), 1);
        due.is("both have", x.act(0, Due.NARROW, 2, Due.bc(3, 3)), 1);
        due.is("rights that both have", x.token(3, 2), 1);
        due.is("no rights at all", x.act(0, Due.NARROW, 1, Due.bc(0, 4)), 1);
        due.is("none", x.token(4, 2), 0);
        due.is("bits of -1: all", x.act(0, Due.NARROW, 1, Due.bc(-1, 5)), 1);
        due.is("all that it has", x.token(5, 2), 15);
        due.is("bits of 20", x.act(0, Due.NARROW, 1, Due.bc(20, 6)), 1);
        due.is("the 4 of 20", x.token(6, 2), 4);
        due.is("without LEND", x.act(0, Due.NARROW, 3, Due.bc(1, 7)), -7);
        due.is("of room", x.act(0, Due.NARROW, 0, Due.bc(1, 7)), -7);
    }

    private static void once() {
        TokenHeart x = withPage();
        due.is("once", x.act(0, Due.ONCE, 1, Due.bc(0, 2)), 1);
        due.is("its kind", x.token(2, 0), 3);
        due.is("without LEND, TAKE", x.token(2, 2), 3);
        due.is("store by it", x.store(0, 2, 5), 1);
        due.is("it is gone", x.slot(0, 2), -1);
        due.is("stored", x.load(0, 1), 5);
        x.act(0, Due.ONCE, 1, Due.bc(0, 2));
        due.is("load by it", x.load(0, 2), 5);
        due.is("it is gone", x.slot(0, 2), -1);
        due.is("of room", x.act(0, Due.ONCE, 0, Due.bc(0, 2)), -7);
        x.act(0, Due.MAKE, 0, Due.bc(Due.GATE, 3));
        x.act(0, Due.ONCE, 3, Due.bc(0, 4));
        due.is("a gate can't be read", x.load(0, 4), 0);
        due.is("one that wasn't used stays", x.slot(0, 4) >= 0 ? 1 : 0, 1);
        due.is("seal by one for once", x.act(0, Due.SEAL, 1, Due.bc(4, -1)), 1);
        due.is("it is gone", x.slot(0, 4), -1);
        x.act(0, Due.ONCE, 3, Due.bc(0, 4));
        due.is("open by one for once", x.act(0, Due.OPEN, 1, Due.bc(4, -1)), 1);
        due.is("it is gone", x.slot(0, 4), -1);
    }

    private static void split() {
        TokenHeart x = new TokenHeart();
        x.act(0, Due.TILL, 0, Due.bc(9, 0));
        due.is("split", x.act(0, Due.SPLIT, 0, Due.bc(100, 1)), 1);
        int[] want = {1, -1, 31, 100, 0, 0, 1, -1, 9, 0};
        for (int what = 0; what < 10; what++) {
            due.is("part: token(1, " + what + ")", x.token(1, what), want[what]);
        }
        due.is("so much less", x.token(0, 3), 860);
        due.is("split 0", x.act(0, Due.SPLIT, 0, Due.bc(0, 2)), -7);
        due.is("split -1", x.act(0, Due.SPLIT, 0, Due.bc(-1, 2)), -7);
        due.is("more than there is", x.act(0, Due.SPLIT, 1, Due.bc(101, 2)), -7);
        due.is("all there is", x.act(0, Due.SPLIT, 1, Due.bc(100, 2)), 1);
        due.is("none is left", x.token(1, 3), 0);
        due.is("below", x.token(2, 4), 1);
        due.is("slot isn't empty", x.act(0, Due.SPLIT, 0, Due.bc(1, 2)), -7);
        due.is("nothing was parted", x.token(0, 3), 860);
        x.act(0, Due.MAKE, 0, Due.bc(Due.PAGE, 4));
        due.is("a page isn't room", x.act(0, Due.SPLIT, 4, Due.bc(1, 5)), -7);
        due.is("room in all", Due.allRoom(x), 960);
        due.is("1 is enough", x.act(0, Due.SPLIT, 0, Due.bc(1, 3)), 1);
        due.is("1", x.token(x.slot(0, 3), 3), 1);
    }

    private static void make() {
        int[] price = {10, 40, 5, 3, 2, 1};
        TokenHeart x = new TokenHeart();
        int left = 960;
        for (int kind = 0; kind < 6; kind++) {
            due.is("make kind " + kind, x.act(0, Due.MAKE, 0, Due.bc(kind, kind + 1)), 1);
            left -= price[kind];
            due.is("room left", x.token(0, 3), left);
            due.is("kind", x.thing(kind + 1, 0), kind);
            due.is("made of", x.thing(kind + 1, 1), 0);
            int[] want = {0, kind + 1, 15, 0, -1, 0, kind + 1, -1, -1, 0};
            for (int what = 0; what < 10; what++) {
                due.is("made: token(" + (kind + 1) + ", " + what + ")", x.token(kind + 1, what), want[what]);
            }
        }
        due.is("kind -1", x.act(0, Due.MAKE, 0, Due.bc(-1, 7)), -7);
        due.is("kind 6", x.act(0, Due.MAKE, 0, Due.bc(6, 7)), -7);
        due.is("slot isn't empty", x.act(0, Due.MAKE, 0, Due.bc(0, 6)), -7);
        due.is("of a page", x.act(0, Due.MAKE, 1, Due.bc(0, 7)), -7);
        x.act(0, Due.SPLIT, 0, Due.bc(39, 8));
        due.is("39 is no room for a box", x.act(0, Due.MAKE, 8, Due.bc(Due.BOX, 7)), -7);
        due.is("but for a page", x.act(0, Due.MAKE, 8, Due.bc(Due.PAGE, 7)), 1);
        due.is("no room is lost", Due.allRoom(x), 960);
        x.act(0, Due.TILL, 8, Due.bc(3, 0));
        x.act(0, Due.DROP, 7, 0);
        x.act(0, Due.MAKE, 8, Due.bc(Due.CLOCK, 7));
        due.is("the last tick doesn't come with what is made", x.token(x.slot(0, 7), 8), -1);
        manyThings();
    }

    private static void manyThings() {
        TokenHeart x = withBoxes(4);
        for (int i = 5; i < 40; i++) {
            due.is("thing " + i, x.act(0, Due.MAKE, 0, Due.bc(Due.CLOCK, 9)), 1);
            due.is("it is held", Due.read(x, "gets " + (1 + (i - 5) / 9) + " " + i + " r"), 1);
            x.act(0, Due.DROP, 9, 0);
        }
        due.is("things", x.count(1), 40);
        due.is("none to make", x.act(0, Due.MAKE, 0, Due.bc(Due.CLOCK, 9)), -7);
        x.act(1, Due.DROP, 5, 0);
        due.is("the least number that is free", x.act(0, Due.MAKE, 0, Due.bc(Due.PAGE, 9)), 1);
        due.is("its kind", x.thing(9, 0), Due.PAGE);
        due.is("room in all", Due.allRoom(x), 960);
    }

    private static void sealAndOpen() {
        TokenHeart x = withPage();
        x.act(0, Due.MAKE, 0, Due.bc(Due.CLOCK, 2));
        due.is("seal", x.act(0, Due.SEAL, 1, Due.bc(2, 0)), 1);
        due.is("by", x.token(1, 7), 2);
        due.is("sealed: no load", x.load(0, 1), 0);
        due.is("sealed: no store", x.store(0, 1, 1), -7);
        due.is("sealed: no lend", x.act(0, Due.LEND, 1, Due.bc(0, 3)), -7);
        due.is("sealed: not again", x.act(0, Due.SEAL, 1, Due.bc(2, 0)), -7);
        due.is("open by the wrong one", x.act(0, Due.OPEN, 1, Due.bc(0, 0)), -7);
        due.is("open by an empty slot", x.act(0, Due.OPEN, 1, Due.bc(5, 0)), -7);
        x.act(0, Due.NARROW, 2, Due.bc(2, 3));
        x.act(0, Due.NARROW, 2, Due.bc(1, 4));
        due.is("open without READ", x.act(0, Due.OPEN, 1, Due.bc(3, 0)), -7);
        due.is("open by READ", x.act(0, Due.OPEN, 1, Due.bc(4, 0)), 1);
        due.is("open", x.token(1, 7), -1);
        due.is("open what isn't sealed", x.act(0, Due.OPEN, 1, Due.bc(4, 0)), -7);
        due.is("seal without WRITE", x.act(0, Due.SEAL, 1, Due.bc(4, 0)), -7);
        due.is("seal by WRITE", x.act(0, Due.SEAL, 1, Due.bc(3, 0)), 1);
        due.is("seal by room", x.act(0, Due.SEAL, 2, Due.bc(0, 0)), -7);
        due.is("seal room", x.act(0, Due.SEAL, 0, Due.bc(2, 0)), 1);
        due.is("sealed room", x.act(0, Due.MAKE, 0, Due.bc(0, 7)), -7);
        due.is("seal itself", x.act(0, Due.SEAL, 2, Due.bc(2, 0)), 1);
        due.is("by itself", x.token(2, 7), 2);
        due.is("open by another of it", x.act(0, Due.OPEN, 2, Due.bc(4, 0)), 1);
        x.act(0, Due.DROP, 2, 0);
        due.is("the one that sealed is gone", x.token(1, 7), 40);
        x.act(0, Due.OPEN, 0, Due.bc(2, 0));
        due.is("and of room, too", x.token(0, 7), 40);
    }

    private static void take() {
        TokenHeart x = withPage();
        x.act(0, Due.LEND, 1, Due.bc(0, 2));
        x.act(0, Due.LEND, 2, Due.bc(0, 3));
        x.act(0, Due.LEND, 1, Due.bc(0, 4));
        x.act(0, Due.NARROW, 1, Due.bc(7, 5));
        due.is("take without TAKE", x.act(0, Due.TAKE, 5, 0), -7);
        due.is("take what nothing is below", x.act(0, Due.TAKE, 3, 0), 1);
        due.is("none", x.count(3), 0);
        due.is("take", x.act(0, Due.TAKE, 2, 0), 1);
        due.is("doomed", x.token(3, 9), 1);
        due.is("itself isn't", x.token(2, 9), 0);
        due.is("take all", x.act(0, Due.TAKE, 1, 0), 1);
        due.is("all", x.count(3), 4);
        due.is("doomed ones are there still", x.count(2), 6);
        due.is("but fit for nothing", x.store(0, 2, 1), -7);
        due.is("in pieces", x.run(1), 0);
        due.is("3 are gone", x.count(2), 3);
        due.is("the least", x.slot(0, 5), 5);
        x.run(1);
        due.is("all are gone", x.count(3), 0);
        due.is("but the first", x.store(0, 1, 8), 1);
        due.is("take of room", x.act(0, Due.SPLIT, 0, Due.bc(50, 6)), 1);
        due.is("take of room", x.act(0, Due.TAKE, 0, 0), 1);
        x.run(1);
        due.is("it has it back", x.token(0, 3), 950);
    }

    private static void drop() {
        TokenHeart x = withPage();
        x.act(0, Due.LEND, 1, Due.bc(0, 2));
        x.act(0, Due.SEAL, 2, Due.bc(1, 0));
        due.is("drop a sealed one", x.act(0, Due.DROP, 2, 0), 1);
        due.is("gone", x.slot(0, 2), -1);
        x.act(0, Due.LEND, 1, Due.bc(0, 2));
        x.act(0, Due.TAKE, 1, 0);
        due.is("drop a doomed one", x.act(0, Due.DROP, 2, 0), 1);
        due.is("none is doomed", x.count(3), 0);
        due.is("drop nothing", x.act(0, Due.DROP, 2, 0), -7);
        due.is("drop the last one", x.act(0, Due.DROP, 1, 0), 1);
        due.is("the page is gone", x.thing(1, 0), -3);
        due.is("its room is back", x.token(0, 3), 960);
    }

    private static void putAndGet() {
        TokenHeart x = withPage();
        x.act(0, Due.MAKE, 0, Due.bc(Due.BOX, 2));
        x.act(0, Due.TILL, 1, Due.bc(50, 0));
        due.is("put", x.act(0, Due.PUT, 1, Due.bc(2, 4)), 1);
        int[] want = {1, 1, 15, 0, 1, 2, 4, -1, 50, 0};
        for (int what = 0; what < 10; what++) {
            due.is("put: token(3, " + what + ")", x.token(3, what), want[what]);
        }
        due.is("put where something is", x.act(0, Due.PUT, 1, Due.bc(2, 4)), -7);
        due.is("put room", x.act(0, Due.PUT, 0, Due.bc(2, 5)), -7);
        due.is("put by a page", x.act(0, Due.PUT, 1, Due.bc(1, 5)), -7);
        due.is("put to slot 10", x.act(0, Due.PUT, 1, Due.bc(2, 10)), -7);
        due.is("get", x.act(0, Due.GET, 4, Due.bc(2, 3)), 1);
        due.is("its lender", x.token(4, 4), 3);
        due.is("its box", x.token(4, 5), 0);
        due.is("its slot", x.token(4, 6), 3);
        due.is("its last tick", x.token(4, 8), 50);
        due.is("get from an empty slot", x.act(0, Due.GET, 5, Due.bc(2, 5)), -7);
        due.is("get to where something is", x.act(0, Due.GET, 4, Due.bc(2, 3)), -7);
        x.act(0, Due.NARROW, 2, Due.bc(1, 5));
        x.act(0, Due.NARROW, 2, Due.bc(2, 6));
        due.is("put without WRITE", x.act(0, Due.PUT, 1, Due.bc(5, 6)), -7);
        due.is("put by WRITE", x.act(0, Due.PUT, 1, Due.bc(6, 6)), 1);
        due.is("get without READ", x.act(0, Due.GET, 4, Due.bc(6, 7)), -7);
        due.is("get by READ", x.act(0, Due.GET, 4, Due.bc(5, 7)), 1);
        x.act(0, Due.ONCE, 2, Due.bc(0, 8));
        due.is("put by one for once into another slot", x.act(0, Due.PUT, 1, Due.bc(8, 7)), 1);
        due.is("it is gone", x.slot(0, 8), -1);
        onceIsThereTillDone();
    }

    /** Slot and number of a ONCE token aren't free for what it is used for. */
    private static void onceIsThereTillDone() {
        TokenHeart x = withPage();
        due.is("a token of the first box", Due.read(x, "gets 0 0 rwlt"), 1);
        x.act(0, Due.ONCE, 2, Due.bc(0, 3));
        due.is("put into the slot of what is used", x.act(0, Due.PUT, 1, Due.bc(3, 3)), -7);
        due.is("it stays", x.slot(0, 3), 3);
        due.is("put elsewhere", x.act(0, Due.PUT, 1, Due.bc(3, 4)), 1);
        due.is("another number", x.slot(0, 4), 4);
        due.is("the number is free behind it", x.act(0, Due.LEND, 1, Due.bc(0, 5)), 1);
        due.is("the number is free behind it", x.slot(0, 5), 3);
        x.act(0, Due.ONCE, 2, Due.bc(0, 6));
        due.is("get into the slot of what is used", x.act(0, Due.GET, 1, Due.bc(6, 6)), -7);
        due.is("get elsewhere", x.act(0, Due.GET, 1, Due.bc(6, 7)), 1);
        due.is("it is gone", x.slot(0, 6), -1);
    }

    private static void till() {
        TokenHeart x = withPage();
        due.is("till 998", x.act(0, Due.TILL, 1, Due.bc(998, -1)), 1);
        due.is("last tick", x.token(1, 8), 998);
        due.is("till 999", x.act(0, Due.TILL, 1, Due.bc(999, -1)), -7);
        due.is("till -1", x.act(0, Due.TILL, 1, Due.bc(-1, -1)), -7);
        due.is("an earlier one", x.act(0, Due.TILL, 1, Due.bc(2, 5)), 1);
        due.is("last tick", x.token(1, 8), 2);
        due.is("a later one is done", x.act(0, Due.TILL, 1, Due.bc(5, 5)), 1);
        due.is("and changes nothing", x.token(1, 8), 2);
        due.is("of room", x.act(0, Due.TILL, 0, Due.bc(0, 0)), 1);
        due.is("make at its last tick", x.act(0, Due.MAKE, 0, Due.bc(Due.PAGE, 2)), 1);
        x.act(0, Due.NARROW, 2, Due.bc(11, 3));
        due.is("till without LEND", x.act(0, Due.TILL, 3, Due.bc(5, 0)), -7);
        x.run(1);
        due.is("make behind it", x.act(0, Due.MAKE, 0, Due.bc(Due.PAGE, 4)), -7);
        due.is("till behind it", x.act(0, Due.TILL, 0, Due.bc(0, 0)), -7);
        x.run(1);
        due.is("store at the last tick", x.store(0, 1, 4), 1);
        x.run(1);
        due.is("store behind it", x.store(0, 1, 4), -7);
        due.is("it is there still", x.slot(0, 1), 1);
        due.is("and can be dropped", x.act(0, Due.DROP, 1, 0), 1);
    }

    // Promises 3 and 4
    private static void loadAndStore() {
        TokenHeart x = withPage();
        due.is("store", x.store(0, 1, -77), 1);
        due.is("load", x.load(0, 1), -77);
        due.is("load, no such box", x.load(1, 0), 0);
        due.is("load, no such box", x.load(-1, 0), 0);
        due.is("load, no such slot", x.load(0, 10), 0);
        due.is("load, no such slot", x.load(0, -1), 0);
        due.is("status(-3)", x.status(-3), 4);
        due.is("load of an empty slot", x.load(0, 9), 0);
        due.is("load of room", x.load(0, 0), 0);
        due.is("status(-7)", x.status(-7), 2);
        due.is("store, no such box", x.store(40, 0, 1), -3);
        due.is("store, no such slot", x.store(0, 10, 1), -3);
        due.is("store, no such slot", x.store(0, -1, 1), -3);
        due.is("store to an empty slot", x.store(0, 9, 1), -7);
        due.is("store to room", x.store(0, 0, 1), -7);
        x.act(0, Due.NARROW, 1, Due.bc(1, 2));
        x.act(0, Due.NARROW, 1, Due.bc(2, 3));
        due.is("load by READ", x.load(0, 2), -77);
        due.is("store by READ", x.store(0, 2, 1), -7);
        due.is("store by WRITE", x.store(0, 3, 9), 1);
        due.is("load by WRITE", x.load(0, 3), 0);
        for (int kind = 1; kind <= 3; kind++) {
            x.act(0, Due.MAKE, 0, Due.bc(kind, 5));
            due.is("load of kind " + kind, x.load(0, 5), 0);
            due.is("store to kind " + kind, x.store(0, 5, 1), -7);
            x.act(0, Due.DROP, 5, 0);
        }
        due.is("status(-7)", x.status(-7), 12);
        x.act(0, Due.MAKE, 0, Due.bc(Due.CLOCK, 5));
        x.run(9);
        due.is("load of a clock", x.load(0, 5), 9);
        due.is("store to a clock", x.store(0, 5, 1), -7);
    }

    private static void lines() {
        TokenHeart x = new TokenHeart();
        x.act(0, Due.MAKE, 0, Due.bc(Due.LINE, 1));
        due.is("load without IN", x.load(0, 1), 0);
        due.is("isn't refused", x.status(-7), 0);
        Due.rows(x, 0, 5, 6, 7);
        due.is("in", x.in(1, 0), 3);
        due.is("load", x.load(0, 1), 5);
        due.is("load", x.load(0, 1), 6);
        due.is("left", x.thing(1, 5), 1);
        due.is("load", x.load(0, 1), 7);
        due.is("load", x.load(0, 1), 0);
        for (int i = 0; i < 33; i++) {
            due.is("store", x.store(0, 1, 100 + i), 1);
        }
        due.is("how many", x.thing(1, 4), 33);
        due.is("the first are kept", x.out(1, 0), 100);
        due.is("the first 30", x.out(1, 29), 129);
        due.is("no more", x.out(1, 30), 0);
        due.is("beyond", x.status(-3), 1);
        due.is("what is written isn't read", x.load(0, 1), 0);
    }
}
