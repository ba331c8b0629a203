import java.util.Random;
import java.util.regex.Matcher;
import java.util.regex.Pattern;

/** Terms 6, and what 'More precisely' says of it: a test for each sentence that names an edge. */
public final class WiresEdgesTest {
    private static Due due = new Due();

    public static void main(String[] args) {
        whatIsHeldNow();
        gateBothWays();
        gateByOneAlone();
        boxWays();
        onlyWhatCanBeLent();
        allRightsOfEachThing();
        longChain();
        allAtOnce();
        sealedFromTheRoundBehind();
        sealedAddsToWhatIsHeld();
        sealedInOtherBoxes();
        firstBoxIsABox();
        firstThingIsAThing();
        ofOneBoxAlone();
        whatWasHeldIsForgotten();
        lastNumbers();
        whenAtTheEdges();
        neverIsNone();
        apartIsAnyOfThree();
        wishesOfWhatIsGone();
        wishesAreTwenty();
        lettersOfAWord();
        textsByARegularExpression();
        numbersOfATextAreThings();
        getsIntoTheFirstSlot();
        wholeOrNotAtAll();
        tapeIsFull();
        bytesOfTheTape();
        due.end("WiresEdgesTest");
    }

    /**
     * Boxes 1 to n and things of these kinds behind them: all are kept by tokens of no use, in the
     * last box, that box by one in box 0. Nobody else holds a token but by the text.
     */
    private static TokenHeart wired(int boxes, int[] kinds, String text) {
        TokenHeart x = new TokenHeart();
        int all = boxes + 1 + kinds.length;
        for (int i = 1; i <= all; i++) {
            int kind = i <= boxes ? Due.BOX : i < all ? kinds[i - boxes - 1] : Due.BOX;
            due.is("make", x.act(0, Due.MAKE, 0, Due.bc(kind, 1)), 1);
            due.is("keep", Due.read(x, "gets " + (i > 10 ? 2 : 1) + " " + i + " t"), 1);
            x.act(0, Due.DROP, 1, 0);
        }
        due.is("wired", Due.read(x, text) > 0 ? 1 : 0, 1);
        return x;
    }

    /** Boxes 1, 2, 3, a gate 4, pages 5, 6 (all of which 1 holds by TAKE alone), and these tokens. */
    private static TokenHeart small(String text) {
        return wired(3, new int[] {Due.GATE, Due.PAGE, Due.PAGE}, text);
    }

    // 'what is in its TABLE, not DOOMED (last TICKS are left out; ..)'; '(ROOM and MAKE are left out.)'
    private static void whatIsHeldNow() {
        for (int rights = 0; rights < 16; rights++) {
            TokenHeart x = new TokenHeart();
            x.act(0, Due.MAKE, 0, Due.bc(Due.PAGE, 1));
            x.act(0, Due.MAKE, 0, Due.bc(Due.BOX, 2));
            x.act(0, Due.NARROW, 1, Due.bc(rights, 3));
            due.is("another way to it", Due.read(x, "gets 2 1 t"), 1);
            x.act(0, Due.TILL, 3, Due.bc(0, 0));
            x.act(0, Due.TILL, 1, Due.bc(0, 0));
            x.run(1);
            due.is("behind its last TICK", x.could(0, 1), 15);
            x.image();
            x.act(0, Due.DROP, 2, 0);
            x.act(0, Due.DROP, 1, 0);
            due.is("it is gone", x.could(0, 1), -3);
            x.back();
            x.act(0, Due.DROP, 0, 0);
            due.is("room isn't held", x.could(0, 0), 0);
            due.is("the page is", x.when(0, 1, 15), 0);
        }
        TokenHeart x = new TokenHeart();
        x.act(0, Due.MAKE, 0, Due.bc(Due.PAGE, 1));
        x.act(0, Due.MAKE, 0, Due.bc(Due.BOX, 2));
        x.act(0, Due.PUT, 1, Due.bc(2, 0));
        x.act(0, Due.NARROW, 2, Due.bc(0, 3));
        due.is("box 2 holds it", x.when(2, 1, 15), 0);
        x.act(0, Due.TAKE, 1, 0);
        due.is("DOOMED: box 2 could get it again", x.when(2, 1, 15), 1);
        due.is("a box is held by tokens without RIGHTS not at all", x.could(2, 2), 15);
    }

    // 'X and Y each come to hold all RIGHTS of each THING of which the other could hold LEND'
    private static void gateBothWays() {
        String[] ways = {"gets 2 4 w;gets 3 4 r", "gets 3 4 w;gets 2 4 r"};
        for (String way : ways) {
            TokenHeart x = small(way + ";gets 2 5 rl;gets 3 6 wl");
            due.is(way, x.when(3, 5, 5), 1);
            due.is(way, x.when(2, 6, 6), 1);
            due.is("all of it", x.could(3, 5), 5);
            due.is("all of it", x.could(2, 6), 6);
            due.is("box 1 has no part in it", x.could(1, 5), 8);
        }
    }

    private static void gateByOneAlone() {
        String[] ways = {"gets 2 4 rw", "gets 2 4 r;gets 3 4 r", "gets 2 4 w;gets 3 4 w", "gets 2 4 rlt;gets 3 4 lt",
            "gets 2 4 w;gets 3 5 r"};
        for (String way : ways) {
            TokenHeart x = small(way + ";gets 2 6 rwl");
            due.is(way, x.could(3, 6), 0);
        }
        int[] kinds = {Due.PAGE, Due.BOX, Due.GATE, Due.PROMISE, Due.LINE, Due.CLOCK};
        for (int kind : kinds) {
            TokenHeart x = wired(3, new int[] {kind, Due.PAGE, Due.PAGE}, "gets 2 4 w;gets 3 4 r;gets 2 5 rwl");
            boolean is = kind == Due.GATE || kind == Due.PROMISE;
            // what box 2 may write, box 3 may read: that a box, too, but a round later
            due.is("kind " + kind, x.when(3, 5, 7), is ? 1 : kind == Due.BOX ? 2 : -1);
        }
    }

    // 'WRITE of the BOX Y: Y comes to hold what X could hold LEND of; READ of the BOX Y: X what Y could'
    private static void boxWays() {
        TokenHeart x = small("gets 2 3 w;gets 2 5 rl;gets 3 6 rl");
        due.is("WRITE: that box gets it", x.when(3, 5, 5), 1);
        due.is("WRITE: not the other way", x.could(2, 6), 0);
        x = small("gets 2 3 r;gets 2 5 rl;gets 3 6 rl");
        due.is("READ: this box gets it", x.when(2, 6, 5), 1);
        due.is("READ: not the other way", x.could(3, 5), 0);
        x = small("gets 2 3 rw;gets 2 5 rl;gets 3 6 rl");
        due.is("both", x.when(3, 5, 5) + x.when(2, 6, 5), 2);
        x = small("gets 2 3 lt;gets 2 5 rl;gets 3 6 rl");
        due.is("LEND, TAKE: none", x.could(3, 5) + x.could(2, 6), 0);
        x = small("gets 2 2 rw;gets 2 5 rl");
        due.is("of itself", x.could(2, 5), 5);
        due.is("nothing more", x.could(2, 2), 3);
    }

    private static void onlyWhatCanBeLent() {
        TokenHeart x = small("gets 2 3 w;gets 2 5 rwt");
        due.is("without LEND", x.could(3, 5), 0);
        x = small("gets 2 3 w;gets 2 5 l");
        due.is("LEND alone", x.could(3, 5), 4);
        due.is("in round 1", x.when(3, 5, 4), 1);
    }

    // 'Of each THING: all RIGHTS that the other could hold of it'
    private static void allRightsOfEachThing() {
        TokenHeart x = small("gets 2 3 w;gets 2 5 l;gets 2 5 r;gets 2 6 w");
        due.is("of two tokens", x.could(3, 5), 5);
        due.is("not of another thing", x.could(3, 6), 0);
        due.is("together", x.when(3, 5, 5), 1);
    }

    // 'in ROUNDS .. Till nothing changes': a box further in each round
    private static void longChain() {
        TokenHeart x = new TokenHeart();
        for (int i = 1; i <= 20; i++) {
            x.act(0, Due.MAKE, 0, Due.bc(Due.BOX, 1));
            due.is("kept", Due.read(x, "gets " + (i + 9) / 10 + " " + i + " t"), 1);
            x.act(0, Due.DROP, 1, 0);
        }
        x.act(0, Due.MAKE, 0, Due.bc(Due.PAGE, 1));
        due.is("the page", Due.read(x, "gets 3 21 rl"), 1);
        x.act(0, Due.DROP, 1, 0);
        for (int i = 3; i < 20; i++) {
            due.is("wire", Due.read(x, "gets " + i + " " + (i + 1) + " w"), 1);
        }
        due.is("apart", Due.read(x, "never 20 21 r;apart 3 20;never 20 21 t"), 3);
        for (int i = 3; i <= 20; i++) {
            due.is("box " + i, x.when(i, 21, 5), i - 3);
            due.is("of it", x.could(i, 21), 5);
        }
        due.is("show", x.show(0), 17);
        due.is("show", x.show(1), 17);
        due.is("show", x.show(2), -1);
        due.is("a wire more", Due.read(x, "gets 3 20 w"), 1);
        due.is("show", x.show(0), 1);
    }

    // 'all at once by what could be held in the ROUND before'
    private static void allAtOnce() {
        TokenHeart x = small("gets 1 2 w;gets 2 3 w;gets 1 5 rl");
        due.is("not both in round 1", x.when(3, 5, 1), 2);
        x = small("gets 2 1 w;gets 3 2 w;gets 3 5 rl");
        due.is("nor by the other order", x.when(1, 5, 1), 2);
        x = small("gets 3 2 r;gets 2 1 r;gets 1 5 rl");
        due.is("by READ", x.when(3, 5, 1), 2);
        x = small("gets 1 2 r;gets 2 3 r;gets 3 5 rl");
        due.is("by READ, the other order", x.when(1, 5, 1), 2);
        x = small("gets 1 2 wl;gets 2 3 rl;gets 3 5 rl");
        due.is("a wire that comes in round 1 does so in round 2", x.when(2, 2, 6), 1);
        due.is("what comes by it", x.when(1, 5, 1), -1);
        x = small("gets 1 4 wl;gets 2 1 r;gets 3 4 r;gets 3 5 rl");
        due.is("round 1", x.when(1, 5, 5), 1);
        due.is("2 has the gate in round 1", x.when(2, 4, 2), 1);
        due.is("2 has the page by both in round 2", x.when(2, 5, 5), 2);
    }

    // 'counts in COULD from the ROUND on behind that in which its BOX could hold READ ..'
    private static void sealedFromTheRoundBehind() {
        TokenHeart x = new TokenHeart();
        for (int i = 1; i <= 4; i++) {
            x.act(0, Due.MAKE, 0, Due.bc(Due.PAGE, i));
        }
        x.act(0, Due.MAKE, 0, Due.bc(Due.BOX, 5));
        x.act(0, Due.SEAL, 1, Due.bc(2, 0));
        due.is("READ of it in round 0", x.when(0, 1, 15), 1);
        x.act(0, Due.SEAL, 2, Due.bc(3, 0));
        x.act(0, Due.SEAL, 3, Due.bc(4, 0));
        due.is("a chain of seals", x.when(0, 3, 15), 1);
        due.is("a chain of seals", x.when(0, 2, 15), 2);
        due.is("a chain of seals", x.when(0, 1, 15), 3);
        due.is("read", Due.read(x, "never 0 1 t;never 0 2 t;apart 5 0;gets 0 1 r"), 4);
        due.is("what isn't sealed counts at once", x.when(0, 1, 1), 0);
        due.is("the sealed one then", x.when(0, 1, 2), 3);
        due.is("show", x.show(0), 3);
        due.is("show", x.show(1), 2);
        x.act(0, Due.SEAL, 4, Due.bc(4, 0));
        due.is("by itself: never", x.when(0, 4, 1), -1);
        due.is("so none of them", x.could(0, 3) + x.could(0, 2), 0);
        due.is("show", x.show(0), -1);
        due.is("READ by another token of it", Due.read(x, "gets 0 4 r"), 1);
        due.is("round 0", x.when(0, 4, 1), 0);
        due.is("round 1", x.when(0, 4, 15), 1);
        due.is("round 1, too", x.when(0, 3, 15), 1);
        due.is("3", x.when(0, 1, 15), 3);
    }

    /** What is sealed comes to what is held of the same thing by others, and takes nothing away. */
    private static void sealedAddsToWhatIsHeld() {
        TokenHeart x = small("gets 2 5 rl;gets 2 6 rw;gets 2 5 w;gets 3 5 t");
        due.is("sealed", x.act(2, Due.SEAL, 0, Due.bc(1, -1)), 1);
        for (int rights = 1; rights < 8; rights++) {
            due.is("when, rights " + rights, x.when(2, 5, rights), rights == 2 ? 0 : 1);
        }
        due.is("all of both", x.could(2, 5), 7);
        due.is("and box 2 to box 3", Due.read(x, "gets 2 3 w"), 1);
        due.is("in round 2", x.when(3, 5, 7), 2);
        due.is("all of all three", x.could(3, 5), 15);
        due.is("but not to box 2", x.could(2, 5), 7);
    }

    /** A sealed token in a box counts for that box; box 5 has to come to READ by itself. */
    private static void sealedInOtherBoxes() {
        TokenHeart x = small("gets 1 2 w;gets 2 5 rl");
        due.is("a page of one's own", x.act(0, Due.MAKE, 0, Due.bc(Due.PAGE, 1)), 1);
        int page = x.token(x.slot(0, 1), 1);
        due.is("box 2 gets it, and seals page 5 by it", Due.read(x, "gets 2 " + page + " w"), 1);
        due.is("sealed", x.act(2, Due.SEAL, 0, Due.bc(1, 0)), 1);
        due.is("box 2 has WRITE of it alone", x.could(2, 5), 0);
        due.is("READ in box 1, that can't lend it", Due.read(x, "gets 1 " + page + " r"), 1);
        due.is("box 2", x.could(2, 5), 0);
        due.is("box 1 may lend it", Due.read(x, "gets 1 " + page + " l"), 1);
        due.is("READ comes in round 1, the page in round 2", x.when(2, 5, 5), 2);
        x.act(0, Due.DROP, 1, 0);
        due.is("others hold it", x.when(2, 5, 5), 2);
    }

    // 'what BOXES could ever hold': of box 0, too
    private static void firstBoxIsABox() {
        for (String way : new String[] {"gets 0 4 w;gets 2 4 r", "gets 0 4 r;gets 2 4 w"}) {
            TokenHeart x = small(way + ";gets 0 5 rl;gets 2 6 wl");
            due.is("0 to 2", x.when(2, 5, 5), 1);
            due.is("2 to 0", x.when(0, 6, 6), 1);
            due.is("not to 3", x.could(3, 5) + x.could(3, 6), 0);
        }
    }

    // 'RIGHTS of a THING': of thing 0, too
    private static void firstThingIsAThing() {
        TokenHeart x = small("gets 2 0 wl;gets 2 3 w;apart 3 1");
        due.is("to 3", x.when(3, 0, 6), 1);
        due.is("thing 0 alone", x.could(3, 5) + x.could(3, 6), 0);
        due.is("1 has none of it", x.show(0), -1);
        due.is("gets", Due.read(x, "gets 1 0 l"), 1);
        due.is("now it has", x.show(0), 1);
        x = small("gets 2 0 rl;gets 0 2 r");
        due.is("box 0 of itself, and nothing else changes", x.when(0, 0, 5), 1);
        due.is("in all", x.could(0, 0), 5);
    }

    /** What stands next to a box's things, or a thing's boxes, isn't its own. */
    private static void ofOneBoxAlone() {
        TokenHeart x = small("gets 2 0 r;gets 3 0 r;apart 1 2;apart 2 3");
        due.is("1 has nothing of 0", x.show(0), -1);
        due.is("2 and 3 have", x.show(1), 0);
        x = small("gets 1 2 w;gets 2 0 wl");
        due.is("nothing comes to 3", x.could(3, 0), 0);
        due.is("nothing comes to 1", x.could(1, 0), 0);
    }

    /** Each answer is of what is in the tables now. */
    private static void whatWasHeldIsForgotten() {
        for (int box = 0; box <= 2; box += 2) {
            TokenHeart x = small("gets 0 4 w;gets 2 4 r;gets 0 5 rl");
            due.is("by the gate", x.could(2, 5), 5);
            due.is("by the gate", x.when(2, 5, 5), 1);
            due.is("without it", x.act(box, Due.DROP, box == 0 ? 1 : 0, 0), 1);
            due.is("nothing", x.could(2, 5), 0);
            due.is("never", x.when(2, 5, 1), -1);
        }
    }

    /** Things 1 to 39, of which 1 to 5, 38, 39 are boxes; each is kept by a token in boxes 1 to 4. */
    private static void lastNumbers() {
        TokenHeart x = new TokenHeart();
        for (int i = 1; i <= 39; i++) {
            x.act(0, Due.MAKE, 0, Due.bc(i <= 5 || i >= 38 ? Due.BOX : Due.CLOCK, 1));
            due.is("keep", Due.read(x, "gets " + (1 + (i - 1) / 10) + " " + i + " t"), 1);
            x.act(0, Due.DROP, 1, 0);
        }
        due.is("things", x.count(1), 40);
        due.is("gets", Due.read(x, "gets 38 39 rwl;gets 38 37 rl;gets 5 38 r;apart 5 39;never 39 39 t"), 5);
        for (int box = 0; box < 40; box++) {
            for (int thing = 0; thing < 40; thing++) {
                boolean isBox = box <= 5 || box >= 38;
                int kept = box >= 1 && box <= 4 && thing >= 1 && (thing - 1) / 10 + 1 == box ? 8 : 0;
                int more = box != 5 && box < 38 ? 0 : thing == 39 ? 7 : thing == 37 ? 5 : 0;
                int want = isBox ? kept + more + (box == 5 && thing == 38 ? 1 : 0) : -3;
                due.is("could(" + box + ", " + thing + ")", x.could(box, thing), want);
            }
        }
        due.is("to 39 in round 1", x.when(39, 37, 5), 1);
        due.is("to 5 in round 1", x.when(5, 39, 7), 1);
        due.is("apart till then", x.show(0), 1);
        due.is("never", x.show(1), -1);
        due.is("no thing 40", x.could(39, 40), -3);
        due.is("no box 40", x.could(40, 39), -3);
        due.is("no thing 40", Due.read(x, "gets 39 40 r"), -7);
    }

    // 'all of told RIGHTS (1 .. 15)'; 'NONE: never'
    private static void whenAtTheEdges() {
        TokenHeart x = small("gets 2 3 w;gets 2 5 rl;gets 3 5 w");
        for (int rights = -1; rights <= 17; rights++) {
            int want = rights < 1 || rights > 15 ? -7 : (rights & 8) != 0 ? -1 : (rights & 5) != 0 ? 1 : 0;
            due.is("when, rights " + rights, x.when(3, 5, rights), want);
        }
        due.is("BEYOND is ahead of NO", x.when(9, 5, 0), -3);
        due.is("BEYOND is ahead of NO", x.when(3, 9, 16), -3);
        due.is("a page is no box", x.when(5, 5, 1), -3);
        due.is("nothing of it", x.could(3, 0), 0);
        due.is("nothing of it", x.when(3, 0, 1), -1);
    }

    // 'the BOX could hold none of these'
    private static void neverIsNone() {
        String[] letters = {"r", "w", "l", "t"};
        for (int held = 1; held < 16; held++) {
            StringBuilder has = new StringBuilder();
            for (int i = 0; i < 4; i++) {
                has.append((held >> i & 1) != 0 ? letters[i] : "");
            }
            TokenHeart x = small("gets 2 5 " + has);
            for (int told = 1; told < 16; told++) {
                StringBuilder never = new StringBuilder();
                for (int i = 3; i >= 0; i--) {
                    never.append((told >> i & 1) != 0 ? letters[i] : "");
                }
                due.is("wish", Due.read(x, "never 2 5 " + never), 1);
                due.is("has " + has + ", never " + never, x.show(told - 1), (held & told) != 0 ? 0 : -1);
            }
        }
    }

    // 'APART looks at any of the three RIGHTS of one THING'
    private static void apartIsAnyOfThree() {
        String[] all = {"r", "w", "l", "t", "rwl", "rt"};
        for (String a : all) {
            for (String b : all) {
                TokenHeart x = small("gets 2 5 " + a + ";gets 3 5 " + b + ";apart 2 3;apart 3 2;apart 2 2");
                boolean is = a.equals("t") || b.equals("t");
                due.is("apart by " + a + ", " + b, x.show(0), is ? -1 : 0);
                due.is("apart by " + b + ", " + a, x.show(1), is ? -1 : 0);
                due.is("apart from itself", x.show(2), a.equals("t") ? -1 : 0);
                x = small("gets 2 5 " + a + ";gets 3 6 " + b + ";apart 2 3");
                due.is("of two things", x.show(0), -1);
            }
        }
    }

    // '(A WISH of something that is gone since holds, whatever has its number now.)'
    private static void wishesOfWhatIsGone() {
        TokenHeart x = new TokenHeart();
        x.act(0, Due.MAKE, 0, Due.bc(Due.BOX, 1));
        x.act(0, Due.MAKE, 0, Due.bc(Due.BOX, 2));
        x.act(0, Due.MAKE, 0, Due.bc(Due.PAGE, 3));
        due.is("wishes", Due.read(x, "never 0 3 r;never 1 0 r;apart 1 2;apart 2 1;apart 0 0;never 0 1 r"), 6);
        due.is("more", Due.read(x, "gets 1 0 r;gets 2 0 r"), 2);
        int[] before = {0, 0, 0, 0, 0, 0};
        int[] noPage = {-1, 0, 0, 0, 0, 0};
        int[] noBox1 = {-1, -1, -1, -1, 0, -1};
        shows(x, before);
        x.act(0, Due.DROP, 3, 0);
        shows(x, noPage);
        x.act(0, Due.MAKE, 0, Due.bc(Due.PAGE, 3));
        shows(x, noPage);
        x.act(0, Due.DROP, 1, 0);
        shows(x, noBox1);
        x.act(0, Due.MAKE, 0, Due.bc(Due.BOX, 1));
        due.is("box 1 again", Due.read(x, "gets 1 0 rwl"), 1);
        shows(x, noBox1);
        due.is("a new wish of it", Due.read(x, "apart 1 2"), 1);
        due.is("is its own", x.show(6), 0);
        due.is("none refused", x.status(-3), 0);
    }

    private static void shows(TokenHeart x, int[] want) {
        for (int i = 0; i < want.length; i++) {
            due.is("show(" + i + ")", x.show(i), want[i]);
        }
    }

    // 'WISHES 0 .. 19 as they come'
    private static void wishesAreTwenty() {
        TokenHeart x = small("gets 2 5 r;gets 3 6 r");
        for (int i = 0; i < 20; i++) {
            due.is("no wish " + i, x.show(i), -3);
            due.is("wish " + i, Due.read(x, i % 2 == 0 ? "never 2 5 r" : "apart 2 3"), 1);
            due.is("wishes", x.count(6), i + 1);
            due.is("show", x.show(i), i % 2 == 0 ? 0 : -1);
        }
        due.is("none left", Due.read(x, "never 2 5 r"), -7);
        due.is("none left", Due.read(x, "apart 2 3"), -7);
        due.is("wishes", x.count(6), 20);
        due.is("no wish 20", x.show(20), -3);
        due.is("no wish -1", x.show(-1), -3);
        due.is("a token may come", Due.read(x, "gets 2 5 r"), 1);
    }

    private static void fault(String text, int place) {
        TokenHeart x = new TokenHeart();
        due.is("text '" + text + "'", Due.read(x, text), -10 - place);
        due.is("the tape stays", x.count(7), text.length());
    }

    // 'the place of the first byte with which no TEXT can go on (THE TAPE's size, if it ends too early)'
    private static void lettersOfAWord() {
        String[] texts = {"gets 0 0 r", "never 12 3 wt", "apart 4 56", "gets  7   8    lrwt;apart 1 2;never 9 9 l"};
        String others = "#\u0000\u00ff\n\tGRx9; ";
        for (String text : texts) {
            for (int i = 0; i < text.length(); i++) {
                due.is("each place once", check(text.substring(0, i)), 1);
                for (int k = 0; k < others.length(); k++) {
                    check(text.substring(0, i) + others.charAt(k) + text.substring(i + 1));
                    check(text.substring(0, i) + others.charAt(k) + text.substring(i));
                }
            }
            fault(text + "#", text.length());
            fault(text + ";", text.length() + 1);
            fault(text + " ", text.length());
            fault(" " + text, 0);
            fault(";" + text, 0);
        }
        fault("", 0);
    }

    private static final Pattern GRAMMAR = grammar();

    private static Pattern grammar() {
        StringBuilder rights = new StringBuilder();
        addRights(rights, "", "rwlt");
        String number = "[0-9][0-9]?";
        String one = "(?:(?:gets|never) +" + number + " +" + number + " +(?:" + rights.substring(1) + ")|apart +"
            + number + " +" + number + ")";
        return Pattern.compile(one + "(?:;" + one + ")*");
    }

    /** All rows of letters that are each there once at most, one at least. */
    private static void addRights(StringBuilder all, String row, String left) {
        for (int i = 0; i < left.length(); i++) {
            all.append('|').append(row).append(left.charAt(i));
            addRights(all, row + left.charAt(i), left.substring(0, i) + left.substring(i + 1));
        }
    }

    /** The FAULT, by what the grammar says of each beginning; -1: it is a TEXT. */
    private static int faultOf(String text) {
        if (GRAMMAR.matcher(text).matches()) {
            return -1;
        }
        for (int i = 0; i < text.length(); i++) {
            Matcher m = GRAMMAR.matcher(text.substring(0, i + 1));
            if (!m.matches() && !m.hitEnd()) {
                return i;
            }
        }
        return text.length();
    }

    /** Whether the answer is as the grammar has it: always 1, what is wrong is said. */
    private static int check(String text) {
        int want = faultOf(text);
        TokenHeart x = new TokenHeart();
        int got = Due.read(x, text);
        if (want >= 0) {
            due.is("text '" + text + "'", got, -10 - want);
        } else {
            due.is("text '" + text + "' is one", got > 0 || got == -7 ? 1 : 0, 1);
        }
        return 1;
    }

    private static void textsByARegularExpression() {
        Random random = new Random(7);
        String[] parts = {"gets", "never", "apart", " ", " ", " ", "  ", "1", "0", "12", "r", "w", "rw", "tl", "lrwt", ";",
            "g", "n", "a", "x", "gets 0 0 r", "apart 0 0", "never 0 0 t", "gets 1 1 r;", "apart 1 ", "never 0 "};
        for (int i = 0; i < 4000; i++) {
            StringBuilder text = new StringBuilder();
            int many = 1 + random.nextInt(9);
            for (int k = 0; k < many; k++) {
                text.append(parts[random.nextInt(parts.length)]);
            }
            check(text.toString());
        }
    }

    // 'N: 1 or 2 digits'; '(no such BOX, THING; ..)'
    private static void numbersOfATextAreThings() {
        TokenHeart x = small("gets 2 5 r");
        String[] boxes = {"0", "00", "1", "01", "2", "3", "7", "07"};
        for (String box : boxes) {
            due.is("gets " + box, Due.read(x, "gets " + box + " 05 r"), 1);
            due.is("apart " + box, Due.read(x, "apart " + box + " " + box), 1);
        }
        String[] none = {"4", "5", "8", "9", "10", "39", "40", "99"};
        for (String box : none) {
            due.is("gets " + box, Due.read(x, "gets " + box + " 5 r"), -7);
            due.is("never " + box, Due.read(x, "never " + box + " 5 r"), -7);
            due.is("apart " + box, Due.read(x, "apart 0 " + box), -7);
            due.is("apart " + box, Due.read(x, "apart " + box + " 0"), -7);
        }
        String[] noThings = {"8", "9", "10", "39", "40", "99"};
        for (String thing : noThings) {
            due.is("gets 0 " + thing, Due.read(x, "gets 0 " + thing + " r"), -7);
            due.is("never 0 " + thing, Due.read(x, "never 0 " + thing + " r"), -7);
        }
        due.is("never of a gate", Due.read(x, "never 0 4 r"), 1);
        due.is("status", x.status(-7), 44);
    }

    // 'into its first empty SLOT, a TOKEN of THING T, LENDER none, of these RIGHTS'
    private static void getsIntoTheFirstSlot() {
        TokenHeart x = small("gets 2 5 r");
        for (int i = 1; i < 10; i++) {
            due.is("gets", Due.read(x, "gets 2 6 tw"), 1);
            due.is("slot", x.slot(2, i) >= 0 ? 1 : 0, 1);
        }
        due.is("no SLOT", Due.read(x, "gets 2 6 r"), -7);
        due.is("the tape stays", x.count(7), 10);
        x.act(2, Due.DROP, 4, 0);
        due.is("one is empty", x.text(), 1);
        int token = x.slot(2, 4);
        int[] want = {0, 6, 1, 0, -1, 2, 4, -1, -1, 0};
        for (int what = 0; what < 10; what++) {
            due.is("token, " + what, x.token(token, what), want[what]);
        }
        due.is("the tape is empty", x.count(7), 0);
    }

    // 'A TEXT is done whole, or, if a STATEMENT can't be .., not at all'
    private static void wholeOrNotAtAll() {
        String[] bad = {"gets 9 5 r", "gets 2 9 r", "never 9 5 r", "never 2 9 r", "apart 9 2", "apart 2 9"};
        for (String b : bad) {
            for (int place = 0; place < 3; place++) {
                TokenHeart x = small("gets 2 5 r");
                int tokens = x.count(2);
                String[] rows = {"gets 2 5 r", "never 2 5 r", "apart 2 3"};
                rows[place] = b;
                String text = String.join(";", rows);
                due.is(text, Due.read(x, text), -7);
                due.is("tokens", x.count(2), tokens);
                due.is("wishes", x.count(6), 0);
                due.is("the tape", x.count(7), text.length());
                due.is("again", x.text(), -7);
                due.is("the tape", x.wipe(), text.length());
            }
        }
        // one slot is left, for two
        TokenHeart x = small("gets 2 5 r;gets 2 5 r;gets 2 5 r;gets 2 5 r;gets 2 5 r;gets 2 5 r;gets 2 5 r;gets 2 5 r");
        due.is("two slots for three", Due.read(x, "gets 2 6 r;gets 2 6 r;gets 2 6 r"), -7);
        due.is("none of them", x.slot(2, 8) + x.slot(2, 9), -2);
        due.is("two slots for two", Due.read(x, "gets 2 6 r;gets 2 6 r"), 2);
    }

    // '(bytes, 160 at most)'
    private static void tapeIsFull() {
        StringBuilder text = new StringBuilder("apart         0 0");
        for (int i = 0; i < 13; i++) {
            text.append(";apart  0 0");
        }
        TokenHeart x = new TokenHeart();
        due.is("160 bytes", text.length(), 160);
        due.is("ends too early", Due.read(x, text.substring(0, 159) + " "), -10 - 160);
        due.is("full", x.feed(0, 1), -8);
        due.is("none came", x.count(7), 160);
        due.is("the last byte", Due.read(x, text.substring(0, 159) + ";"), -10 - 159);
        due.is("a TEXT of 160 bytes", Due.read(x, text.toString()), 14);
        due.is("14 wishes", x.count(6), 14);
        due.is("6 wishes are left", Due.read(x, text.toString()), -7);
        due.is("the tape stays", x.wipe(), 160);
        due.is("14 wishes", x.count(6), 14);
    }

    // 'the n lowest bytes of a number behind it, the highest of these first (n 0 .. 4)'
    private static void bytesOfTheTape() {
        int number = 'a' << 24 | 'p' << 16 | 'a' << 8 | 'r';
        int[] faults = {0, 0, 1, 0, 4};
        for (int n = 0; n <= 4; n++) {
            TokenHeart x = new TokenHeart();
            due.is("feed " + n, x.feed(number, n), n);
            // r, ar, par, apar: of these the ones that begin with an a go on
            due.is("text", x.text(), -10 - (n == 2 ? 1 : faults[n]));
        }
        TokenHeart x = new TokenHeart();
        x.feed(number, 4);
        due.is("behind it", x.feed('t', 1), 5);
        due.is("behind it", x.feed(' ' << 24 | '0' << 16 | ' ' << 8 | '0', 4), 9);
        due.is("a TEXT", x.text(), 1);
        due.is("the highest byte of a number below 0", x.feed(0xe1_70_61_72, 4), 4);
        due.is("no letter", x.text(), -10);
        due.is("wipe", x.wipe(), 4);
        int[] sizes = {160, 159, 158, 157, 156};
        for (int n = 0; n <= 4; n++) {
            x.wipe();
            for (int i = 0; i < sizes[n]; i++) {
                x.feed(0, 1);
            }
            due.is("just enough room", x.feed(0, n), 160);
            if (n > 0) {
                x.wipe();
                for (int i = 0; i < sizes[n] + 1; i++) {
                    x.feed(0, 1);
                }
                due.is("one byte too many", x.feed(0, n), -8);
                due.is("none came", x.count(7), sizes[n] + 1);
            }
        }
        due.is("BELOW is ahead", x.feed(0, -1), -4);
        due.is("NO is ahead", x.feed(0, 5), -7);
    }
}
