/** Promises 33 to 40: sheet, set, lay, write, tear, row, copy, status. */
public final class SheetsTest {
    private static Due due = new Due();

    public static void main(String[] args) {
        sheets();
        rows();
        copy();
        status();
        due.end("SheetsTest");
    }

    // Promises 33 and 34
    private static void sheets() {
        TokenHeart x = new TokenHeart();
        due.is("sheet -1", x.sheet(-1, -5), -3);
        due.is("sheet 4", x.sheet(4, 161), -3);
        due.is("n -2", x.sheet(0, -2), -4);
        due.is("n far below", x.sheet(0, Integer.MIN_VALUE), -4);
        due.is("n 161", x.sheet(0, 161), -7);
        due.is("n 160", x.sheet(3, 160), 160);
        due.is("set the last", x.set(3, 159, 5), 0);
        due.is("the one before", x.set(3, 159, -3), 5);
        due.is("isn't refused", x.set(3, 159, 6), -3);
        due.is("status(-3)", x.status(-3), 2);
        due.is("i 160", x.set(3, 160, 5), 0);
        due.is("i -1", x.set(3, -1, 5), 0);
        due.is("no sheet", x.set(4, 0, 5), 0);
        due.is("no sheet", x.set(-1, 0, 5), 0);
        due.is("status(-3)", x.status(-3), 6);
        due.is("a missing one, whatever i is", x.set(0, -9, 5), 0);
        due.is("a missing one", x.set(1, 0, 5), 0);
        due.is("status(-2)", x.status(-2), 2);
        due.is("again", x.sheet(3, 160), 160);
        due.is("all 0", x.set(3, 159, 1), 0);
        due.is("empty", x.sheet(3, 0), 0);
        due.is("i 0 of none", x.set(3, 0, 1), 0);
        due.is("status(-3)", x.status(-3), 7);
        due.is("missing", x.sheet(3, -1), -1);
        due.is("set of it", x.set(3, 0, 1), 0);
        due.is("status(-2)", x.status(-2), 3);
        due.is("status(-4)", x.status(-4), 2);
        due.is("status(-7)", x.status(-7), 1);
    }

    // Promises 35 to 38
    private static void rows() {
        TokenHeart x = new TokenHeart();
        due.is("row of none", x.row(0), 0);
        due.is("write to none", x.write(-1, 0), 0);
        due.is("status(-2)", x.status(-2), 2);
        due.is("lay -1", x.lay(-1), -4);
        due.is("lay 61", x.lay(61), -7);
        due.is("tear none", x.tear(), 0);
        due.is("lay 60", x.lay(60), 60);
        due.is("write", x.write(59, 7), 0);
        due.is("write", x.write(59, -8), 7);
        due.is("row", x.row(59), -8);
        due.is("row", x.row(0), 0);
        due.is("none refused", x.status(-3), 0);
        due.is("row 60", x.row(60), 0);
        due.is("row -1", x.row(-1), 0);
        due.is("write 60", x.write(60, 1), 0);
        due.is("write -1", x.write(-1, 1), 0);
        due.is("status(-3)", x.status(-3), 4);
        due.is("a refused lay changes nothing", x.lay(61), -7);
        due.is("row", x.row(59), -8);
        due.is("lay again", x.lay(60), 60);
        due.is("all 0", x.row(59), 0);
        due.is("lay 0", x.lay(0), 0);
        due.is("row of it", x.row(0), 0);
        due.is("status(-3)", x.status(-3), 5);
        due.is("tear", x.tear(), 1);
        due.is("tear", x.tear(), 0);
        due.is("row of none", x.row(0), 0);
        due.is("status(-2)", x.status(-2), 3);
    }

    // Promise 39
    private static void copy() {
        TokenHeart x = new TokenHeart();
        due.is("no sheet, ahead of all", x.copy(4, -1, -1, -1), -3);
        due.is("no sheet", x.copy(-1, 0, 0, 0), -3);
        due.is("both are missing", x.copy(0, -1, -1, -1), -2);
        x.lay(5);
        due.is("the sheet is missing", x.copy(0, 0, 0, 0), -2);
        x.tear();
        Due.rows(x, 0, 1, 2, 3, 4);
        due.is("the row is missing", x.copy(0, 0, 0, 0), -2);
        x.lay(5);
        due.is("n -1, ahead of i, j", x.copy(0, -1, -1, -1), -4);
        due.is("i -1", x.copy(0, -1, 0, 1), -6);
        due.is("j -1", x.copy(0, 0, -1, 1), -6);
        due.is("i + n", x.copy(0, 2, 0, 3), -6);
        due.is("j + n", x.copy(0, 0, 3, 3), -6);
        due.is("i + n wraps", x.copy(0, Integer.MAX_VALUE, 0, 1), -6);
        due.is("j + n wraps", x.copy(0, 0, Integer.MAX_VALUE, 1), -6);
        due.is("n as high as it can be", x.copy(0, 1, 1, Integer.MAX_VALUE), -6);
        due.is("none of it was done", x.row(0), 0);
        due.is("3 numbers", x.copy(0, 1, 2, 3), 3);
        int[] want = {0, 0, 2, 3, 4};
        for (int i = 0; i < 5; i++) {
            due.is("row(" + i + ")", x.row(i), want[i]);
        }
        due.is("none at the end", x.copy(0, 4, 5, 0), 0);
        due.is("none behind the end", x.copy(0, 5, 0, 0), -6);
        due.is("none behind the end", x.copy(0, 0, 6, 0), -6);
        due.is("all", x.copy(0, 0, 0, 4), 4);
        due.is("row(0)", x.row(0), 1);
        due.is("status(-6)", x.status(-6), 9);
    }

    // Promise 40
    private static void status() {
        TokenHeart x = new TokenHeart();
        int[] others = {-9, -1, 0, 1, 7, Integer.MAX_VALUE, Integer.MIN_VALUE};
        for (int by : others) {
            due.is("status(" + by + ")", x.status(by), -7);
        }
        due.is("each of these is counted", x.status(-7), others.length);
        x.back();
        due.is("MISSING", x.status(-2), 1);
        x.slot(9, 9);
        due.is("BEYOND", x.status(-3), 1);
        x.run(-1);
        due.is("BELOW", x.status(-4), 1);
        x.act(0, 0, 0, 0);
        due.is("KIND", x.status(-5), 1);
        x.lay(1);
        x.sheet(0, 1);
        x.copy(0, 0, 0, 2);
        due.is("COPY", x.status(-6), 1);
        for (int i = 0; i < 41; i++) {
            x.feed(0, 4);
        }
        due.is("FULL", x.status(-8), 1);
        due.is("FAULT of a text", x.text(), -10);
        due.is("NO", x.status(-7), others.length);
        due.is("an image has no status", x.image(), 0);
        x.back();
        due.is("FULL", x.status(-8), 1);
    }
}
