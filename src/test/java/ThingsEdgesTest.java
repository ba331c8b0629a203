/**
 * Terms 1 and 2, and what 'More precisely' says of them: a test for each sentence that names an edge.
 * When a token FITS, and when one for ONCE is used up, is told in FitsTest.
 */
public final class ThingsEdgesTest {
    private static final int[] PRICE = {10, 40, 5, 3, 2, 1};

    private static Due due = new Due();

    public static void main(String[] args) {
        leastThing();
        leastToken();
        firstBoxStays();
        noRoomTwice();
        poolIsEmptyAtFirst();
        roomOfKinds();
        allRoomForBoxes();
        goneWithAllBelow();
        roomToTheLender();
        roomWithoutALender();
        roomOfAThing();
        sealsOfAThing();
        boxTakesItsTable();
        boxesInARing();
        slotMustBeEmpty();
        slotsAtTheEdge();
        narrowBits();
        onceRights();
        splitEdges();
        tillEdges();
        sealAndOpenEdges();
        takeEdges();
        dropAnything();
        loadOfKinds();
        lineOut();
        lineIn();
        putAndGetOnes();
        piecesOfThree();
        piecesAsTheTickBegins();
        pieceTakesWhatIsBelow();
        lastTickComes();
        due.end("ThingsEdgesTest");
    }

    private static int make(TokenHeart x, int kind, int slot) {
        return x.act(0, Due.MAKE, 0, Due.bc(kind, slot));
    }

    private static int drop(TokenHeart x, int slot) {
        return x.act(0, Due.DROP, slot, 0);
    }

    private static TokenHeart withPage() {
        TokenHeart x = new TokenHeart();
        due.is("make a page", make(x, Due.PAGE, 1), 1);
        return x;
    }

    // 'a new one takes the least number that is free', 0 .. 39
    private static void leastThing() {
        TokenHeart x = new TokenHeart();
        for (int i = 1; i <= 9; i++) {
            due.is("clock " + i, make(x, Due.CLOCK, i), 1);
            due.is("is thing " + i, x.token(x.slot(0, i), 1), i);
        }
        drop(x, 7);
        drop(x, 3);
        due.is("another", make(x, Due.PAGE, 7), 1);
        due.is("is thing 3", x.token(x.slot(0, 7), 1), 3);
        due.is("one more", make(x, Due.LINE, 3), 1);
        due.is("is thing 7", x.token(x.slot(0, 3), 1), 7);
        full();
    }

    /** 40 things: those from 10 on are kept in boxes 1 to 9. */
    private static void full() {
        TokenHeart x = new TokenHeart();
        for (int i = 1; i <= 9; i++) {
            make(x, Due.BOX, i);
        }
        for (int i = 1; i <= 9; i++) {
            due.is("box " + i + " is held", Due.read(x, "gets 1 " + i + " t"), 1);
        }
        for (int i = 2; i <= 9; i++) {
            drop(x, i);
        }
        for (int i = 10; i < 40; i++) {
            due.is("thing " + i, make(x, Due.CLOCK, 2), 1);
            due.is("its number", x.token(x.slot(0, 2), 1), i);
            due.is("is held", Due.read(x, "gets " + (2 + (i - 10) / 9) + " " + i + " r"), 1);
            drop(x, 2);
        }
        due.is("40 things", x.count(1), 40);
        for (int kind = 0; kind < 6; kind++) {
            due.is("none of kind " + kind, make(x, kind, 2), -7);
        }
        due.is("no room was lost", Due.allRoom(x), 960);
        due.is("thing 39", x.thing(39, 0), Due.CLOCK);
        due.is("thing 40", x.thing(40, 0), -3);
        x.act(5, Due.DROP, 2, 0);
        due.is("39 things", x.count(1), 39);
        due.is("one of a gate", make(x, Due.GATE, 2), 1);
        due.is("39 is free", x.token(x.slot(0, 2), 1), 39);
    }

    // 'TOKENS 0 .. 119 (the least that is free)'
    private static void leastToken() {
        TokenHeart x = withPage();
        for (int i = 2; i <= 9; i++) {
            due.is("lend", x.act(0, Due.LEND, 1, Due.bc(0, i)), 1);
            due.is("token " + i, x.slot(0, i), i);
        }
        drop(x, 8);
        drop(x, 4);
        x.act(0, Due.NARROW, 1, Due.bc(1, 8));
        due.is("the least", x.slot(0, 8), 4);
        x.act(0, Due.SPLIT, 0, Due.bc(1, 4));
        due.is("the next", x.slot(0, 4), 8);
        fullOfTokens();
    }

    private static void fullOfTokens() {
        TokenHeart x = new TokenHeart();
        for (int i = 1; i <= 9; i++) {
            make(x, Due.BOX, i);
        }
        drop(x, 9);
        for (int i = 1; i <= 8; i++) {
            Due.read(x, "gets 8 " + i + " t");
        }
        make(x, Due.BOX, 9);
        Due.read(x, "gets 8 9 t");
        for (int i = 1; i <= 9; i++) {
            drop(x, i);
        }
        due.is("tokens", x.count(2), 10);
        for (int i = 1; i <= 3; i++) {
            make(x, Due.BOX, i);
        }
        int next = 13;
        for (int box = 1; box <= 12 && next < 120; box++) {
            for (int slot = 0; slot < 10 && next < 120; slot++) {
                if (x.slot(box, slot) == -1) {
                    due.is("token " + next, Due.read(x, "gets " + box + " 0 wl"), 1);
                    next++;
                }
            }
        }
        due.is("120 tokens", x.count(2), 120);
        due.is("token 119", x.token(119, 0), 0);
        due.is("token 120", x.token(120, 0), -3);
        due.is("no MAKE", make(x, Due.CLOCK, 9), -7);
        due.is("no SPLIT", x.act(0, Due.SPLIT, 0, Due.bc(1, 9)), -7);
        due.is("no LEND", x.act(0, Due.LEND, 1, Due.bc(0, 9)), -7);
        due.is("no gets", Due.read(x, "gets 0 0 r"), -7);
        due.is("no room was lost", Due.allRoom(x), 960);
        int r = Due.runner(x, 0, Due.LEND, 1, 0, 9);
        x.run(1);
        due.is("as a step it is a FAULT", x.look(r, 1), 3);
        int free = x.slot(1, 0);
        x.act(1, Due.DROP, 0, 0);
        due.is("one is free", make(x, Due.CLOCK, 9), 1);
        due.is("its number", x.slot(0, 9), free);
    }

    // 'THING 0 never'
    private static void firstBoxStays() {
        TokenHeart x = new TokenHeart();
        due.is("drop the only token", drop(x, 0), 1);
        due.is("no token", x.count(2), 0);
        due.is("a box", x.thing(0, 0), Due.BOX);
        due.is("of which there is no token", x.thing(0, 3), 0);
        due.is("all room in the pool", x.count(4), 960);
        due.is("nothing to make of", make(x, Due.CLOCK, 1), -7);
        due.is("a token of it", Due.read(x, "gets 0 0 rwlt"), 1);
        due.is("is dropped", drop(x, 0), 1);
        due.is("it stays", x.thing(0, 0), Due.BOX);
        due.is("its room isn't any", x.count(4), 960);
    }

    // 'room that is parted, never twice'
    private static void noRoomTwice() {
        TokenHeart x = new TokenHeart();
        x.act(0, Due.SPLIT, 0, Due.bc(960, 1));
        due.is("all is parted", x.token(0, 3), 0);
        due.is("into this", x.token(1, 3), 960);
        due.is("nothing is left", x.act(0, Due.SPLIT, 0, Due.bc(1, 2)), -7);
        due.is("for nothing", make(x, Due.CLOCK, 2), -7);
        due.is("but of this", x.act(0, Due.MAKE, 1, Due.bc(Due.CLOCK, 2)), 1);
        due.is("in all", Due.allRoom(x), 960);
    }

    // 'THE POOL (0 at first)'
    private static void poolIsEmptyAtFirst() {
        TokenHeart x = new TokenHeart();
        due.is("the pool", x.count(4), 0);
        x.act(0, Due.SPLIT, 0, Due.bc(9, 1));
        drop(x, 1);
        due.is("nothing came to it", x.count(4), 0);
    }

    // 'KINDS and the ROOM each takes'; 'has what the KIND takes'
    private static void roomOfKinds() {
        for (int kind = 0; kind < 6; kind++) {
            TokenHeart x = new TokenHeart();
            x.act(0, Due.SPLIT, 0, Due.bc(PRICE[kind], 1));
            due.is("just enough for kind " + kind, x.act(0, Due.MAKE, 1, Due.bc(kind, 2)), 1);
            due.is("nothing is left", x.token(1, 3), 0);
            due.is("its kind", x.thing(1, 0), kind);
            due.is("made of", x.thing(1, 1), 1);
            if (PRICE[kind] > 1) {
                x.act(0, Due.SPLIT, 0, Due.bc(PRICE[kind] - 1, 3));
                due.is("one too few for kind " + kind, x.act(0, Due.MAKE, 3, Due.bc(kind, 4)), -7);
                due.is("nothing was taken", x.token(x.slot(0, 3), 3), PRICE[kind] - 1);
            }
        }
        TokenHeart x = new TokenHeart();
        due.is("no kind -1", make(x, -1, 1), -7);
        due.is("no kind 6", make(x, 6, 1), -7);
        due.is("no kind 900", make(x, 900, 1), -7);
    }

    private static void allRoomForBoxes() {
        TokenHeart x = new TokenHeart();
        for (int i = 0; i < 24; i++) {
            due.is("box", make(x, Due.BOX, 1), 1);
            due.is("is held", Due.read(x, "gets " + (1 + i / 10) + " " + (i + 1) + " t"), 1);
            drop(x, 1);
        }
        due.is("24 boxes take all room", x.token(0, 3), 0);
        due.is("no more", make(x, Due.CLOCK, 1), -7);
    }

    // 'all whose LENDER it is are gone, too (and so on)'
    private static void goneWithAllBelow() {
        TokenHeart x = withPage();
        make(x, Due.BOX, 2);
        x.act(0, Due.LEND, 1, Due.bc(0, 3));
        x.act(0, Due.PUT, 3, Due.bc(2, 7));
        x.act(1, Due.LEND, 7, Due.bc(0, 8));
        due.is("no box is page 1", x.slot(1, 7), -3);
        x.act(2, Due.LEND, 7, Due.bc(0, 8));
        x.act(2, Due.NARROW, 8, Due.bc(5, 9));
        x.act(2, Due.ONCE, 9, Due.bc(0, 0));
        x.act(0, Due.LEND, 1, Due.bc(0, 4));
        due.is("below the first", x.below(1), 6);
        due.is("drop one", drop(x, 3), 1);
        for (int slot = 0; slot < 10; slot++) {
            due.is("in box 2, slot " + slot, x.slot(2, slot), -1);
        }
        due.is("what isn't below stays", x.slot(0, 4) >= 0 ? 1 : 0, 1);
        due.is("the first, too", x.below(1), 1);
        due.is("the page, too", x.thing(1, 3), 2);
        goneWhateverTheNumbers();
    }

    /** One far below has a lesser number than those between. */
    private static void goneWhateverTheNumbers() {
        TokenHeart x = new TokenHeart();
        x.act(0, Due.SPLIT, 0, Due.bc(10, 1));
        x.act(0, Due.SPLIT, 0, Due.bc(500, 2));
        x.act(0, Due.SPLIT, 2, Due.bc(300, 3));
        x.act(0, Due.SPLIT, 3, Due.bc(200, 4));
        drop(x, 1);
        x.act(0, Due.SPLIT, 4, Due.bc(100, 1));
        due.is("the least number", x.slot(0, 1), 1);
        due.is("of 4", x.token(1, 4), 4);
        due.is("below 2", x.isBelow(1, 2), 1);
        due.is("below all", x.below(0) * 1000 + x.below(2) * 100 + x.below(3) * 10 + x.below(4), 4321);
        due.is("drop 3", drop(x, 3), 1);
        due.is("all below it", x.slot(0, 1) + x.slot(0, 3) + x.slot(0, 4), -3);
        due.is("back to the lender", x.token(2, 3), 500);
        due.is("tokens", x.count(2), 2);
    }

    // 'What ROOM it has goes back to its LENDER'
    private static void roomToTheLender() {
        TokenHeart x = new TokenHeart();
        x.act(0, Due.SPLIT, 0, Due.bc(500, 1));
        x.act(0, Due.SPLIT, 1, Due.bc(300, 2));
        x.act(0, Due.SPLIT, 2, Due.bc(200, 3));
        x.act(0, Due.SPLIT, 0, Due.bc(60, 4));
        drop(x, 3);
        due.is("of the last to the one above", x.token(2, 3), 300);
        drop(x, 1);
        due.is("of all to the one that is there", x.token(0, 3), 900);
        due.is("the other has its own", x.token(x.slot(0, 4), 3), 60);
        x.act(0, Due.SPLIT, 4, Due.bc(10, 5));
        x.act(0, Due.TAKE, 0, 0);
        due.is("not as it is doomed", x.token(0, 3), 900);
        x.run(1);
        due.is("but as it is gone", x.token(0, 3), 960);
    }

    // 'without one to THE POOL'
    private static void roomWithoutALender() {
        TokenHeart x = new TokenHeart();
        x.act(0, Due.SPLIT, 0, Due.bc(500, 1));
        x.act(0, Due.SPLIT, 1, Due.bc(300, 2));
        make(x, Due.PAGE, 3);
        x.act(0, Due.MAKE, 2, Due.bc(Due.LINE, 4));
        drop(x, 0);
        due.is("all of it", x.count(4), 960 - 12);
        due.is("those below are gone", x.slot(0, 1) + x.slot(0, 2), -2);
        due.is("what was made stays", x.count(1), 3);
        due.is("of none", x.thing(1, 1), -1);
        due.is("of none", x.thing(2, 1), -1);
        drop(x, 3);
        due.is("its room to the pool", x.count(4), 958);
        drop(x, 4);
        due.is("its room to the pool", x.count(4), 960);
    }

    // 'its ROOM goes to the TOKEN of which it was made, if that is there, else to THE POOL'
    private static void roomOfAThing() {
        TokenHeart x = new TokenHeart();
        x.act(0, Due.SPLIT, 0, Due.bc(100, 1));
        for (int i = 0; i < 3; i++) {
            x.act(0, Due.MAKE, 1, Due.bc(Due.PAGE, 2 + i));
        }
        due.is("left", x.token(1, 3), 70);
        x.act(0, Due.LEND, 2, Due.bc(0, 5));
        due.is("another token of it", Due.read(x, "gets 0 1 r"), 1);
        drop(x, 2);
        due.is("a token is left", x.token(1, 3), 70);
        drop(x, 6);
        due.is("none is left", x.token(1, 3), 80);
        due.is("not to the one above", x.token(0, 3), 860);
        drop(x, 1);
        due.is("back to the one above", x.token(0, 3), 940);
        x.act(0, Due.SPLIT, 0, Due.bc(1, 1));
        due.is("the same number", x.slot(0, 1), 1);
        drop(x, 3);
        due.is("that isn't there any more", x.count(4), 10);
        due.is("the new one has its own", x.token(1, 3), 1);
        x.act(0, Due.SEAL, 0, Due.bc(4, 0));
        make(x, Due.CLOCK, 5);
        drop(x, 4);
        due.is("the last of them", x.count(4), 20);
    }

    // '40: by one that is gone'
    private static void sealsOfAThing() {
        TokenHeart x = withPage();
        make(x, Due.GATE, 2);
        make(x, Due.LINE, 3);
        x.act(0, Due.SEAL, 3, Due.bc(2, 0));
        x.act(0, Due.LEND, 2, Due.bc(0, 4));
        drop(x, 4);
        due.is("a token of it is there", x.token(3, 7), 2);
        drop(x, 2);
        due.is("none is", x.token(3, 7), 40);
        make(x, Due.GATE, 2);
        due.is("whatever has its number", x.token(3, 7), 40);
        due.is("that doesn't open it", x.act(0, Due.OPEN, 3, Due.bc(2, 0)), -7);
        due.is("it may be dropped", drop(x, 3), 1);
        due.is("seal itself", x.act(0, Due.SEAL, 1, Due.bc(1, 0)), 1);
        due.is("it is its own last one", x.token(1, 7), 1);
    }

    // 'A BOX that is gone: all TOKENS in its TABLE are gone, its RUNNERS are GONE'
    private static void boxTakesItsTable() {
        TokenHeart x = withPage();
        make(x, Due.BOX, 2);
        make(x, Due.GATE, 3);
        for (int slot = 0; slot < 10; slot++) {
            due.is("put", x.act(0, Due.PUT, slot == 9 ? 3 : 1, Due.bc(2, slot)), 1);
        }
        x.act(2, Due.SEAL, 4, Due.bc(3, 0));
        x.act(0, Due.SEAL, 1, Due.bc(1, 0));
        int stopped = Due.runner(x, 2, 0, 0, 0, 0);
        int waits = Due.runner(x, 2, 16, 9, -1, -1);
        int ready = Due.runner(x, 2, 1, 1, 0, 0, 3, 0, 0, 0);
        int other = Due.runner(x, 0, 1, 1, 0, 0, 3, 0, 0, 0);
        x.run(3);
        due.is("drop it", drop(x, 2), 1);
        due.is("all that were in it", x.count(2), 3);
        due.is("the stopped one", x.look(stopped, 1), 4);
        due.is("the one that waits", x.look(waits, 1), 4);
        due.is("at no gate", x.look(waits, 5), -1);
        due.is("the ready one", x.look(ready, 1), 4);
        due.is("another box's", x.look(other, 1), 0);
        for (int r = 0; r < 3; r++) {
            due.is("the number that it had", x.look(r, 0), 2);
        }
        due.is("no fault", x.count(10), 0);
        due.is("runners", x.count(5), 4);
        due.is("slot of it", x.slot(2, 0), -3);
        due.is("all room", Due.allRoom(x), 960);
        due.is("the page", x.thing(1, 3), 1);
    }

    // 'and again, till nothing goes'
    private static void boxesInARing() {
        TokenHeart x = new TokenHeart();
        for (int i = 1; i <= 4; i++) {
            make(x, Due.BOX, i);
        }
        due.is("4 holds 3, 3 holds 2, 2 holds 1", Due.read(x, "gets 4 3 t;gets 3 2 t;gets 2 1 t"), 3);
        due.is("1 holds page 5", make(x, Due.PAGE, 5), 1);
        due.is("1 holds page 5", Due.read(x, "gets 1 5 t"), 1);
        for (int i = 1; i <= 5; i++) {
            due.is("drop", i == 4 ? 1 : drop(x, i), 1);
        }
        due.is("all are there", x.count(1), 6);
        due.is("and the last goes", drop(x, 4), 1);
        due.is("with all others", x.count(1), 1);
        due.is("one token is left", x.count(2), 1);
        due.is("of all room", x.token(0, 3), 960);

        x = new TokenHeart();
        make(x, Due.BOX, 1);
        make(x, Due.BOX, 2);
        due.is("each holds the other", Due.read(x, "gets 1 2 rwlt;gets 2 1 rwlt"), 2);
        drop(x, 1);
        drop(x, 2);
        due.is("there is a token of each", x.count(1), 3);
        due.is("still acting", x.act(1, Due.DROP, 0, 0), 1);
        due.is("that ends both", x.count(1), 1);
        due.is("of all room", x.token(0, 3), 960);
    }

    // 'a SLOT into which something comes must be empty'
    private static void slotMustBeEmpty() {
        TokenHeart x = withPage();
        make(x, Due.BOX, 2);
        x.act(0, Due.PUT, 1, Due.bc(2, 3));
        int tokens = x.count(2);
        int[] full = {0, 1, 2};
        for (int c : full) {
            due.is("LEND to " + c, x.act(0, Due.LEND, 1, Due.bc(0, c)), -7);
            due.is("NARROW to " + c, x.act(0, Due.NARROW, 1, Due.bc(1, c)), -7);
            due.is("ONCE to " + c, x.act(0, Due.ONCE, 1, Due.bc(0, c)), -7);
            due.is("SPLIT to " + c, x.act(0, Due.SPLIT, 0, Due.bc(1, c)), -7);
            due.is("MAKE to " + c, x.act(0, Due.MAKE, 0, Due.bc(Due.CLOCK, c)), -7);
            due.is("GET to " + c, x.act(0, Due.GET, 3, Due.bc(2, c)), -7);
        }
        due.is("PUT to 3", x.act(0, Due.PUT, 1, Due.bc(2, 3)), -7);
        due.is("tokens", x.count(2), tokens);
        due.is("room", x.token(0, 3), 910);
        due.is("things", x.count(1), 3);
        due.is("the slot of the same number in one's own table isn't asked", x.act(0, Due.PUT, 1, Due.bc(2, 0)), 1);
    }

    // SLOTS 0 .. 9
    private static void slotsAtTheEdge() {
        int[] slots = {-1, 10, 11, 998, 0, 9};
        for (int c : slots) {
            int want = c == 9 ? 1 : -7;
            TokenHeart x = withPage();
            make(x, Due.BOX, 2);
            x.act(0, Due.PUT, 1, Due.bc(2, 3));
            due.is("LEND to " + c, x.act(0, Due.LEND, 1, Due.bc(0, c)), want);
            drop(x, 9);
            due.is("NARROW to " + c, x.act(0, Due.NARROW, 1, Due.bc(1, c)), want);
            drop(x, 9);
            due.is("ONCE to " + c, x.act(0, Due.ONCE, 1, Due.bc(0, c)), want);
            drop(x, 9);
            due.is("SPLIT to " + c, x.act(0, Due.SPLIT, 0, Due.bc(1, c)), want);
            drop(x, 9);
            due.is("MAKE to " + c, x.act(0, Due.MAKE, 0, Due.bc(Due.CLOCK, c)), want);
            drop(x, 9);
            due.is("GET to " + c, x.act(0, Due.GET, 3, Due.bc(2, c)), want);
            due.is("PUT to " + c, x.act(0, Due.PUT, 1, Due.bc(2, c)), c == 0 || c == 9 ? 1 : -7);
        }
        int[] from = {-1, 10, Integer.MIN_VALUE, Integer.MAX_VALUE};
        for (int a : from) {
            for (int what = Due.LEND; what <= Due.TILL; what++) {
                TokenHeart x = withPage();
                boolean is = what < 15 || what > 17;
                due.is("act " + what + " of slot " + a, x.act(0, what, a, Due.bc(1, 5)), is ? -7 : -5);
            }
        }
    }

    // 'RIGHTS that both have'; 'NARROW by any number looks at its bits'
    private static void narrowBits() {
        int[][] tries = {{-1, 15}, {0, 0}, {1, 1}, {2, 2}, {4, 4}, {8, 8}, {15, 15}, {16, 0}, {17, 1}, {31, 15},
            {32, 0}, {999, 7}, {2147481, 9}};
        for (int[] t : tries) {
            TokenHeart x = withPage();
            due.is("NARROW by " + t[0], x.act(0, Due.NARROW, 1, Due.bc(t[0], 2)), 1);
            due.is("its RIGHTS", x.token(2, 2), t[1]);
        }
        int[][] steps = {{-2, 14}, {-5, 11}, {Integer.MIN_VALUE, 0}, {Integer.MAX_VALUE, 15}};
        for (int[] t : steps) {
            TokenHeart x = withPage();
            Due.runner(x, 0, Due.NARROW, 1, t[0], 2);
            x.run(1);
            due.is("step NARROW by " + t[0], x.token(2, 2), t[1]);
        }
        TokenHeart x = withPage();
        x.act(0, Due.NARROW, 1, Due.bc(6, 2));
        x.act(0, Due.NARROW, 2, Due.bc(13, 3));
        due.is("no RIGHTS that it hadn't", x.token(3, 2), 4);
    }

    // 'RIGHTS without LEND, TAKE'
    private static void onceRights() {
        for (int rights = 0; rights < 16; rights++) {
            TokenHeart x = withPage();
            x.act(0, Due.NARROW, 1, Due.bc(rights, 2));
            boolean mayLend = (rights & 4) != 0;
            due.is("ONCE of RIGHTS " + rights, x.act(0, Due.ONCE, 2, Due.bc(0, 3)), mayLend ? 1 : -7);
            due.is("its RIGHTS", x.token(3, 2), mayLend ? rights & 3 : -3);
        }
    }

    // 'a of ROOM, FITS for MAKE, has n (1 or more)'
    private static void splitEdges() {
        int[][] tries = {{-1, -7}, {0, -7}, {1, 1}, {959, 1}, {960, 1}, {961, -7}, {2147481, -7}};
        for (int[] t : tries) {
            TokenHeart x = new TokenHeart();
            due.is("SPLIT by " + t[0], x.act(0, Due.SPLIT, 0, Due.bc(t[0], 1)), t[1]);
            due.is("so much less", x.token(0, 3), t[1] == 1 ? 960 - t[0] : 960);
            due.is("so much", x.token(1, 3), t[1] == 1 ? t[0] : -3);
        }
        int[] steps = {-5, Integer.MIN_VALUE, Integer.MAX_VALUE};
        for (int n : steps) {
            TokenHeart x = new TokenHeart();
            Due.runner(x, 0, Due.SPLIT, 0, n, 1);
            x.run(1);
            due.is("step SPLIT by " + n, x.look(0, 1), 3);
            due.is("nothing", x.token(0, 3), 960);
        }
        TokenHeart x = withPage();
        due.is("of a page", x.act(0, Due.SPLIT, 1, Due.bc(1, 2)), -7);
        due.is("of a page 0", x.act(0, Due.SPLIT, 1, Due.bc(0, 2)), -7);
    }

    // 'by a TICK (0 .. 998)'; 'if it had none, or a later one (else it stays)'; 'is done'
    private static void tillEdges() {
        int[][] tries = {{-1, -7, -1}, {0, 1, 0}, {1, 1, 1}, {997, 1, 997}, {998, 1, 998}, {999, -7, -1}, {2147481, -7, -1}};
        for (int[] t : tries) {
            TokenHeart x = withPage();
            due.is("TILL " + t[0], x.act(0, Due.TILL, 1, Due.bc(t[0], -1)), t[1]);
            due.is("its last TICK", x.token(1, 8), t[2]);
            due.is("of ROOM TILL " + t[0], x.act(0, Due.TILL, 0, Due.bc(t[0], 77)), t[1]);
            due.is("its last TICK", x.token(0, 8), t[2]);
        }
        TokenHeart x = withPage();
        x.act(0, Due.TILL, 1, Due.bc(50, 0));
        due.is("the same", x.act(0, Due.TILL, 1, Due.bc(50, 0)), 1);
        due.is("50", x.token(1, 8), 50);
        due.is("a later one", x.act(0, Due.TILL, 1, Due.bc(51, 0)), 1);
        due.is("it stays", x.token(1, 8), 50);
        due.is("an earlier one", x.act(0, Due.TILL, 1, Due.bc(49, 0)), 1);
        due.is("49", x.token(1, 8), 49);
        x.act(0, Due.LEND, 1, Due.bc(0, 2));
        due.is("of what is lent of it", x.act(0, Due.TILL, 2, Due.bc(3, 0)), 1);
        due.is("the lender's stays", x.token(1, 8), 49);
        due.is("TILL 0", x.act(0, Due.TILL, 1, Due.bc(0, 0)), 1);
        due.is("what is lent keeps its own", x.token(2, 8), 3);
        x.run(1);
        due.is("the lender is over", x.act(0, Due.LEND, 1, Due.bc(0, 3)), -7);
        due.is("what is lent isn't", x.act(0, Due.LEND, 2, Due.bc(0, 3)), 1);
    }

    private static void sealAndOpenEdges() {
        TokenHeart x = withPage();
        make(x, Due.CLOCK, 2);
        make(x, Due.BOX, 3);
        due.is("by room", x.act(0, Due.SEAL, 1, Due.bc(0, 0)), -7);
        due.is("by an empty slot", x.act(0, Due.SEAL, 1, Due.bc(9, 0)), -7);
        due.is("by slot -1", x.act(0, Due.SEAL, 1, Due.bc(-1, 0)), -7);
        due.is("by slot 10", x.act(0, Due.SEAL, 1, Due.bc(10, 0)), -7);
        due.is("by a box", x.act(0, Due.SEAL, 1, Due.bc(3, 0)), 1);
        due.is("sealed by", x.token(1, 7), 3);
        due.is("twice", x.act(0, Due.SEAL, 1, Due.bc(2, 0)), -7);
        due.is("the first stays", x.token(1, 7), 3);
        due.is("open by slot -1", x.act(0, Due.OPEN, 1, Due.bc(-1, 0)), -7);
        due.is("open by slot 10", x.act(0, Due.OPEN, 1, Due.bc(10, 0)), -7);
        due.is("open by itself", x.act(0, Due.OPEN, 1, Due.bc(1, 0)), -7);
        due.is("open by that box", x.act(0, Due.OPEN, 1, Due.bc(3, 0)), 1);
        due.is("twice", x.act(0, Due.OPEN, 1, Due.bc(3, 0)), -7);
        // opened though doomed, or behind its last tick: it needn't FIT
        x.act(0, Due.LEND, 1, Due.bc(0, 4));
        x.act(0, Due.TILL, 4, Due.bc(0, 0));
        x.act(0, Due.SEAL, 4, Due.bc(2, 0));
        x.act(0, Due.TAKE, 1, 0);
        due.is("open a doomed one", x.act(0, Due.OPEN, 4, Due.bc(2, 0)), 1);
        due.is("open", x.token(x.slot(0, 4), 7), -1);
        // thing 0 seals as others do
        due.is("a token of it", Due.read(x, "gets 0 0 rw"), 1);
        due.is("seal by box 0", x.act(0, Due.SEAL, 3, Due.bc(5, -1)), 1);
        due.is("sealed by", x.token(x.slot(0, 3), 7), 0);
        due.is("open by box 0", x.act(0, Due.OPEN, 3, Due.bc(5, -1)), 1);
        due.is("open", x.token(x.slot(0, 3), 7), -1);
        drop(x, 5);
        // one that seals itself
        due.is("seal itself", x.act(0, Due.SEAL, 2, Due.bc(2, 0)), 1);
        due.is("it can't open itself", x.act(0, Due.OPEN, 2, Due.bc(2, 0)), -7);
        due.is("without WRITE", x.act(0, Due.NARROW, 1, Due.bc(13, 5)), 1);
        due.is("not by itself", x.act(0, Due.SEAL, 5, Due.bc(5, 0)), -7);
        due.is("without LEND", x.act(0, Due.NARROW, 1, Due.bc(11, 6)), 1);
        due.is("not by itself", x.act(0, Due.SEAL, 6, Due.bc(6, 0)), -7);
    }

    private static void takeEdges() {
        TokenHeart x = withPage();
        due.is("with nothing below", x.act(0, Due.TAKE, 1, 0), 1);
        due.is("none", x.count(3), 0);
        x.act(0, Due.LEND, 1, Due.bc(0, 2));
        x.act(0, Due.SEAL, 2, Due.bc(1, 0));
        x.act(0, Due.LEND, 1, Due.bc(0, 3));
        x.act(0, Due.ONCE, 3, Due.bc(0, 4));
        due.is("take", x.act(0, Due.TAKE, 1, 0), 1);
        for (int t = 2; t <= 4; t++) {
            due.is("doomed, sealed or not", x.token(t, 9), 1);
        }
        due.is("itself isn't", x.token(1, 9), 0);
        due.is("twice", x.act(0, Due.TAKE, 1, 0), 1);
        due.is("3", x.count(3), 3);
        due.is("lent behind it", x.act(0, Due.LEND, 1, Due.bc(0, 5)), 1);
        due.is("it isn't doomed", x.token(5, 9), 0);
        x.run(1);
        due.is("it is there", x.slot(0, 5), 5);
        due.is("they aren't", x.slot(0, 2) + x.slot(0, 3) + x.slot(0, 4), -3);
    }

    // 'what is in it is gone (also if SEALED, DOOMED)'
    private static void dropAnything() {
        TokenHeart x = withPage();
        for (int slot = 2; slot <= 5; slot++) {
            x.act(0, Due.NARROW, 1, Due.bc(slot == 5 ? 0 : 15, slot));
        }
        x.act(0, Due.SEAL, 2, Due.bc(1, 0));
        x.act(0, Due.TILL, 3, Due.bc(0, 0));
        x.run(1);
        due.is("SEALED", drop(x, 2), 1);
        due.is("behind its last TICK", drop(x, 3), 1);
        x.act(0, Due.TAKE, 1, 0);
        due.is("DOOMED", drop(x, 4), 1);
        due.is("without RIGHTS", drop(x, 5), 1);
        due.is("room", drop(x, 0), 1);
        due.is("the last one", drop(x, 1), 1);
        due.is("nothing", drop(x, 1), -7);
        due.is("nothing is left", x.count(2), 0);
    }

    // 'of a PAGE its number, of a CLOCK NOW, of a LINE the next number of IN'; 'else a FAULT'
    private static void loadOfKinds() {
        TokenHeart x = new TokenHeart();
        for (int kind = 0; kind < 6; kind++) {
            make(x, kind, 1 + kind);
        }
        int[] stores = {1, -7, -7, -7, 1, -7};
        int[] loads = {1, 0, 0, 0, 1, 1};
        for (int kind = 0; kind < 6; kind++) {
            int refused = x.status(-7);
            due.is("store to kind " + kind, x.store(0, 1 + kind, 9), stores[kind]);
            due.is("load of kind " + kind, x.load(0, 1 + kind), kind == 0 ? 9 : 0);
            int want = (stores[kind] == 1 ? 0 : 1) + 1 - loads[kind];
            due.is("refused", x.status(-7), refused + want);
        }
        int[] edges = {Integer.MIN_VALUE, -8, -1, 0, Integer.MAX_VALUE};
        for (int v : edges) {
            due.is("store " + v, x.store(0, 1, v), 1);
            due.is("load " + v, x.load(0, 1), v);
            due.is("thing", x.thing(1, 2), v);
        }
        x.run(200);
        due.is("the clock", x.load(0, 6), 200);
        due.is("in its tick", Due.runner(x, 0, 4, 6, 0, 0, 4, 6, 0, 0), 0);
        x.run(2);
        due.is("NOW is as it began", x.look(0, 3), 201);
    }

    // 'a LINE's OUT gets it (30 are kept, more are counted)'
    private static void lineOut() {
        TokenHeart x = new TokenHeart();
        make(x, Due.LINE, 1);
        due.is("none at first", x.thing(1, 4), 0);
        due.is("nothing at 0", x.out(1, 0), 0);
        due.is("that is BEYOND", x.status(-3), 1);
        for (int i = 0; i < 40; i++) {
            due.is("store", x.store(0, 1, 1000 + i), 1);
            due.is("counted", x.thing(1, 4), i + 1);
            int refused = x.status(-3);
            due.is("kept", x.out(1, i), i < 30 ? 1000 + i : 0);
            due.is("or BEYOND", x.status(-3), i < 30 ? refused : refused + 1);
        }
        due.is("the first", x.out(1, 0), 1000);
        due.is("the last that is kept", x.out(1, 29), 1029);
    }

    // 'of a LINE the next number of IN (0, if there is none)'; 'the first 30 numbers'
    private static void lineIn() {
        int[] sizes = {0, 1, 29, 30, 31, 160};
        for (int size : sizes) {
            TokenHeart x = new TokenHeart();
            make(x, Due.LINE, 1);
            x.sheet(0, size);
            for (int i = 0; i < size; i++) {
                x.set(0, i, 7 + i);
            }
            int many = Math.min(30, size);
            due.is("IN by " + size, x.in(1, 0), many);
            x.sheet(0, -1);
            for (int i = 0; i < many; i++) {
                due.is("left", x.thing(1, 5), many - i);
                due.is("next", x.load(0, 1), 7 + i);
            }
            due.is("left", x.thing(1, 5), 0);
            due.is("none", x.load(0, 1), 0);
            due.is("still none", x.load(0, 1), 0);
            due.is("left", x.thing(1, 5), 0);
            due.is("that isn't refused", x.status(-7), 0);
        }
    }

    // PUT and GET with one's own box, and with the token of the box itself
    private static void putAndGetOnes() {
        TokenHeart x = new TokenHeart();
        make(x, Due.BOX, 1);
        due.is("a box is put into itself", x.act(0, Due.PUT, 1, Due.bc(1, 0)), 1);
        due.is("its token", x.token(x.slot(1, 0), 1), 1);
        due.is("it gets of itself", x.act(1, Due.GET, 0, Due.bc(0, 1)), 1);
        due.is("below", x.isBelow(x.slot(1, 1), x.slot(1, 0)), 1);
        due.is("it puts into itself", x.act(1, Due.PUT, 1, Due.bc(0, 2)), 1);
        due.is("all are below the first", x.below(x.slot(0, 1)), 3);
        drop(x, 1);
        due.is("so it goes with that", x.thing(1, 0), -3);
        due.is("all room", x.token(0, 3), 960);
        make(x, Due.PAGE, 2);
        due.is("put by a page", x.act(0, Due.PUT, 2, Due.bc(2, 5)), -7);
        due.is("get by a page", x.act(0, Due.GET, 2, Due.bc(2, 5)), -7);
        due.is("put by room", x.act(0, Due.PUT, 2, Due.bc(0, 5)), -7);
        due.is("get by room", x.act(0, Due.GET, 2, Due.bc(0, 5)), -7);
        due.is("put by slot -1", x.act(0, Due.PUT, 2, Due.bc(-1, 5)), -7);
        due.is("get by slot 10", x.act(0, Due.GET, 2, Due.bc(10, 5)), -7);
        due.is("get of room", Due.read(x, "gets 0 0 r"), 1);
        due.is("get of room", x.act(0, Due.GET, 0, Due.bc(1, 5)), -7);
    }

    /** n tokens lent of the page: tokens 2, 3, .. in slots 2, 3, .., all doomed. */
    private static TokenHeart doomed(int n) {
        TokenHeart x = withPage();
        for (int i = 0; i < n; i++) {
            x.act(0, Due.LEND, 1, Due.bc(0, 2 + i));
        }
        x.act(0, Due.TAKE, 1, 0);
        return x;
    }

    // 'as a TICK begins the 3 with the least numbers'
    private static void piecesOfThree() {
        for (int n = 0; n <= 8; n++) {
            TokenHeart x = doomed(n);
            due.is("doomed", x.count(3), n);
            for (int left = n; left >= 0; left -= 3) {
                due.is("left", x.count(3), left);
                for (int i = 0; i < n; i++) {
                    due.is("slot " + (2 + i), x.slot(0, 2 + i), i < n - left ? -1 : 2 + i);
                }
                due.is("nobody does a step", x.run(1), 0);
            }
            due.is("none left", x.count(3), 0);
            due.is("the page", x.thing(1, 3), 1);
        }
    }

    // 'the 3 as the TICK begins': one that goes with another one counts, too
    private static void piecesAsTheTickBegins() {
        TokenHeart x = withPage();
        x.act(0, Due.LEND, 1, Due.bc(0, 2));
        x.act(0, Due.LEND, 2, Due.bc(0, 3));
        x.act(0, Due.LEND, 3, Due.bc(0, 4));
        x.act(0, Due.LEND, 1, Due.bc(0, 5));
        x.act(0, Due.TAKE, 1, 0);
        x.run(1);
        due.is("2, with it 3 and 4, are the 3", x.slot(0, 2) + x.slot(0, 3) + x.slot(0, 4), -3);
        due.is("5 is left", x.slot(0, 5), 5);
        due.is("doomed", x.count(3), 1);
        x.run(1);
        due.is("none is left", x.slot(0, 5), -1);
        // they go ahead of the step, and of the choice
        x = doomed(3);
        int r = Due.runner(x, 0, Due.LEND, 1, 0, 2);
        x.run(1);
        due.is("the slot is empty as the step is done", x.look(r, 1), 0);
        due.is("and the number free", x.slot(0, 2), 2);
        x = doomed(4);
        r = Due.runner(x, 0, Due.LEND, 1, 0, 5);
        x.run(1);
        due.is("the fourth isn't gone yet", x.look(r, 1), 3);
    }

    // 'with all below them'
    private static void pieceTakesWhatIsBelow() {
        TokenHeart x = withPage();
        x.act(0, Due.LEND, 1, Due.bc(0, 9));
        for (int i = 2; i <= 8; i++) {
            x.act(0, Due.LEND, i == 2 ? 9 : i - 1, Due.bc(0, i));
        }
        due.is("below", x.below(1), 8);
        x.act(0, Due.TAKE, 1, 0);
        due.is("doomed", x.count(3), 8);
        x.run(1);
        due.is("all in one piece", x.count(3), 0);
        due.is("tokens", x.count(2), 2);
        // room that is doomed comes back piece by piece
        x = new TokenHeart();
        for (int i = 1; i <= 4; i++) {
            x.act(0, Due.SPLIT, 0, Due.bc(10 * i, i));
        }
        x.act(0, Due.TAKE, 0, 0);
        x.run(1);
        due.is("10, 20, 30 are back", x.token(0, 3), 920);
        x.run(1);
        due.is("40, too", x.token(0, 3), 960);
    }

    // 'By SPLIT and PUT, GET, CALL, ANSWER the last TICK comes with what is LENT'; by LEND, NARROW, ONCE, too
    private static void lastTickComes() {
        TokenHeart x = withPage();
        make(x, Due.BOX, 2);
        x.act(0, Due.TILL, 0, Due.bc(40, 0));
        x.act(0, Due.TILL, 1, Due.bc(30, 0));
        x.act(0, Due.LEND, 1, Due.bc(0, 3));
        x.act(0, Due.NARROW, 1, Due.bc(7, 4));
        x.act(0, Due.ONCE, 1, Due.bc(0, 5));
        x.act(0, Due.SPLIT, 0, Due.bc(5, 6));
        x.act(0, Due.PUT, 1, Due.bc(2, 0));
        x.act(0, Due.GET, 0, Due.bc(2, 7));
        int[] want = {40, 30, -1, 30, 30, 30, 40, 30};
        for (int slot = 0; slot <= 7; slot++) {
            due.is("last TICK of slot " + slot, x.token(x.slot(0, slot), 8), want[slot]);
        }
        due.is("put", x.token(x.slot(2, 0), 8), 30);
        x.act(0, Due.MAKE, 6, Due.bc(Due.CLOCK, 8));
        due.is("what is made has none", x.token(x.slot(0, 8), 8), -1);
    }
}
