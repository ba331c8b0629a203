/** Counts the answers that are not as due, and says them; and some calls that the tests often need. */
final class Due {
    // Acts, by the numbers that act() has for them.
    static final int LEND = 6;
    static final int NARROW = 7;
    static final int ONCE = 8;
    static final int SPLIT = 9;
    static final int MAKE = 10;
    static final int SEAL = 11;
    static final int OPEN = 12;
    static final int TAKE = 13;
    static final int DROP = 14;
    static final int PUT = 18;
    static final int GET = 19;
    static final int TILL = 20;

    // Kinds of things.
    static final int PAGE = 0;
    static final int BOX = 1;
    static final int GATE = 2;
    static final int PROMISE = 3;
    static final int LINE = 4;
    static final int CLOCK = 5;

    private int wrong = 0;
    private int looked = 0;

    void is(String call, int got, int want) {
        looked++;
        if (got != want) {
            wrong++;
            System.out.println(call + " answered " + got + ", due is " + want);
        }
    }

    void end(String name) {
        System.out.println(name + ": " + looked + " answers, " + wrong + " not as due");
        if (wrong != 0) {
            System.exit(1);
        }
    }

    static int bc(int b, int c) {
        return 1000 * (b + 1) + c + 1;
    }

    /** A program, or another row, as a sheet. */
    static void rows(TokenHeart x, int sheet, int... numbers) {
        x.sheet(sheet, numbers.length);
        for (int i = 0; i < numbers.length; i++) {
            x.set(sheet, i, numbers[i]);
        }
    }

    /** A runner in a box with this program, told by sheet 3: its number. */
    static int runner(TokenHeart x, int box, int... numbers) {
        rows(x, 3, numbers);
        return x.runner(box, 3);
    }

    static int read(TokenHeart x, String text) {
        x.wipe();
        for (int i = 0; i < text.length(); i++) {
            x.feed(text.charAt(i), 1);
        }
        return x.text();
    }

    /** All room there is: in the pool, in tokens, and in things but the first. */
    static int allRoom(TokenHeart x) {
        int[] price = {10, 40, 5, 3, 2, 1};
        int all = x.count(4);
        for (int t = 0; t < 120; t++) {
            all += Math.max(0, x.token(t, 3));
        }
        for (int t = 1; t < 40; t++) {
            int kind = x.thing(t, 0);
            all += kind < 0 ? 0 : price[kind];
        }
        return all;
    }
}
