import java.util.ArrayList;
import java.util.List;

/**
 * Lets the class and the Model answer the same made-up calls, and compares all answers and all that
 * can be looked at. The calls are made by a counter of fixed start: each run is the same.
 * With two numbers (first seed, how many) it tries other ones.
 */
public final class ModelTest {
    private static final int OBJECTS = 500;
    private static final int CALLS = 140;
    private static final String SIGNS = "; gnar0123wlt\u00e4";

    private final long seed;
    private long dice;
    private final TokenHeart x = new TokenHeart();
    private final Model m = new Model();
    private final List<String> told = new ArrayList<>();
    private boolean wrong = false;

    private ModelTest(long seed) {
        this.seed = seed;
        this.dice = seed * 0x9E3779B97F4A7C15L + 12345;
    }

    public static void main(String[] args) {
        long from = args.length > 1 ? Long.parseLong(args[0]) : 0;
        long many = args.length > 1 ? Long.parseLong(args[1]) : OBJECTS;
        int wrong = 0;
        for (long s = from; s < from + many && wrong < 3; s++) {
            wrong += new ModelTest(s).play() ? 0 : 1;
        }
        System.out.println(wrong == 0 ? "the model agrees" : "the model does not agree");
        if (wrong != 0) {
            System.exit(1);
        }
    }

    private boolean play() {
        int flavour = (int) (seed % 6);
        setUp(flavour);
        for (int i = 0; i < CALLS && !wrong; i++) {
            call();
            if (i % 10 == 9) {
                lookAtAll();
            }
        }
        lookAtAll();
        if (wrong) {
            System.out.println("seed " + seed + ":");
            for (String t : told) {
                System.out.println("  " + t);
            }
        }
        return !wrong;
    }

    // ---- dice

    private int roll(int n) {
        dice = dice * 6364136223846793005L + 1442695040888963407L;
        return (int) ((dice >>> 33) % n);
    }

    private boolean maybe(int percent) {
        return roll(100) < percent;
    }

    private int slot() {
        return maybe(4) ? roll(14) - 2 : roll(10);
    }

    private int anyThing() {
        if (maybe(5)) {
            return roll(44) - 2;
        }
        List<Integer> all = new ArrayList<>(m.w.things.keySet());
        return all.get(roll(all.size()));
    }

    private int anyBox() {
        if (maybe(4)) {
            return anyThing();
        }
        List<Integer> all = new ArrayList<>();
        for (int b : m.w.things.keySet()) {
            if (m.isBox(b)) {
                all.add(b);
            }
        }
        return all.get(roll(all.size()));
    }

    private int anyToken() {
        return maybe(10) ? roll(124) - 2 : roll(Math.max(1, m.w.toks.size() + 2));
    }

    private int anyRunner() {
        return maybe(5) ? roll(11) - 1 : roll(Math.max(1, m.w.runners.size()));
    }

    /** A slot of the box that has what is wanted: 0 any token, 1 an empty one, 2 room, 10 + k one of a thing of kind k. */
    private int slotWith(int box, int wanted) {
        if (maybe(6)) {
            return slot();
        }
        List<Integer> all = new ArrayList<>();
        for (int s = 0; s < 10; s++) {
            Integer n = m.at(box, s);
            Model.Tok t = n == null ? null : m.w.toks.get(n);
            boolean fits = wanted == 1 ? t == null : t != null;
            if (fits && wanted == 2) {
                fits = t.thing < 0;
            }
            if (fits && wanted >= 10) {
                fits = t.thing >= 0 && m.w.things.get(t.thing).kind == wanted - 10;
            }
            if (fits) {
                all.add(s);
            }
        }
        return all.isEmpty() ? slot() : all.get(roll(all.size()));
    }

    // ---- calls on both

    private int due(String call, int got, int want) {
        told.add(call + " = " + want);
        if (got != want && !wrong) {
            wrong = true;
            told.add("   the class answered " + got);
        }
        return want;
    }

    private int act(int box, int what, int a, int bc) {
        return due("act(" + box + ", " + what + ", " + a + ", " + bc + ")", x.act(box, what, a, bc), m.act(box, what, a, bc));
    }

    private static int bc(int b, int c) {
        return 1000 * (b + 1) + c + 1;
    }

    private void sheet(int s, int[] row) {
        due("sheet", x.sheet(s, row.length), m.sheet(s, row.length));
        for (int i = 0; i < row.length; i++) {
            due("set(" + s + ", " + i + ", " + row[i] + ")", x.set(s, i, row[i]), m.set(s, i, row[i]));
        }
    }

    private void setUp(int flavour) {
        int boxes = 1 + roll(4);
        for (int i = 0; i < boxes; i++) {
            act(0, 10, 0, bc(1, 1 + i));
        }
        int things = 1 + roll(4);
        for (int i = 0; i < things; i++) {
            int kind = flavour == 0 ? 2 + roll(2) : roll(6);
            act(0, 10, 0, bc(kind, slotWith(0, 1)));
        }
        for (int i = 0; i < 6; i++) {
            act(0, 18, slotWith(0, 0), bc(slotWith(0, 11), roll(10)));
        }
        if (flavour == 5) {
            act(0, 14, 0, 0);
        }
        if (flavour != 4) {
            int runners = 2 + roll(7);
            for (int i = 0; i < runners; i++) {
                newRunner(flavour);
            }
        }
    }

    private void newRunner(int flavour) {
        int box = anyBox();
        int size = 1 + roll(6);
        int[] row = new int[4 * size + (maybe(10) ? roll(4) : 0)];
        for (int k = 0; k < size; k++) {
            int[] s = flavour == 0 || maybe(40) ? meetingStep(box) : anyStep(box);
            System.arraycopy(s, 0, row, 4 * k, 4);
        }
        if (maybe(60)) {
            int[] back = {1, 1, 0, 0, 3, roll(2), 0, 0};
            int at = Math.max(0, 4 * (size - 2));
            System.arraycopy(back, 0, row, at, Math.min(8, 4 * size - at));
        }
        int s = roll(4);
        sheet(s, row);
        due("runner(" + box + ", " + s + ")", x.runner(box, s), m.runner(box, s));
    }

    private int slotOrNone(int box, int wanted) {
        return maybe(50) ? -1 : slotWith(box, wanted);
    }

    private int[] meetingStep(int box) {
        int gate = slotWith(box, maybe(70) ? 12 : 13);
        int what = 15 + roll(3);
        int b = what == 16 ? slotOrNone(box, 1) : slotOrNone(box, 0);
        return new int[] {what, gate, b, slotOrNone(box, 1)};
    }

    private int[] anyStep(int box) {
        int what = maybe(3) ? roll(24) - 2 : roll(20);
        int[] deed = deed(box, what);
        if (what == 1 || what == 2) {
            return new int[] {what, maybe(10) ? Integer.MAX_VALUE : roll(9) - 4, 0, 0};
        }
        if (what == 3) {
            return new int[] {what, roll(7), 0, 0};
        }
        if (what >= 15 && what <= 17) {
            return meetingStep(box);
        }
        return new int[] {what, deed[0], deed[1], deed[2]};
    }

    /** a, b, c of an act that has some hope. */
    private int[] deed(int box, int what) {
        int a = slotWith(box, 0);
        int b = slot();
        int c = slotWith(box, 1);
        if (what == 7) {
            b = roll(18) - 1;
        }
        if (what == 9) {
            a = slotWith(box, 2);
            b = roll(120) - 1;
        }
        if (what == 10) {
            a = slotWith(box, 2);
            b = roll(8) - 1;
        }
        if (what == 11 || what == 12) {
            b = slotWith(box, 0);
        }
        if (what == 18 || what == 19) {
            b = slotWith(box, 11);
            c = what == 18 ? slot() : c;
            a = what == 19 ? slot() : a;
        }
        if (what == 20) {
            b = maybe(10) ? roll(1002) - 1 : m.w.now + roll(6);
        }
        return new int[] {a, b, c};
    }

    private void call() {
        int kind = roll(100);
        if (kind < 42) {
            int box = anyBox();
            int[] often = {6, 7, 8, 8, 18, 18, 19, 6, 7, 11, 11, 12};
            int what = maybe(35) ? often[roll(often.length)] : maybe(3) ? roll(25) - 1 : 6 + roll(15);
            int[] d = deed(box, what);
            act(box, what, d[0], maybe(1) ? -roll(3) : bc(d[1], d[2]));
        } else if (kind < 50) {
            int box = anyBox();
            int s = slotWith(box, maybe(30) ? 14 : maybe(50) ? 10 : 0);
            if (maybe(50)) {
                due("load(" + box + ", " + s + ")", x.load(box, s), m.load(box, s));
            } else {
                int v = roll(1000);
                due("store(" + box + ", " + s + ", " + v + ")", x.store(box, s, v), m.store(box, s, v));
            }
        } else if (kind < 64) {
            int n = maybe(3) ? roll(300) - 10 : 1 + roll(5);
            due("run(" + n + ")", x.run(n), m.run(n));
        } else if (kind < 78) {
            callOfRunners();
        } else if (kind < 87) {
            callOfWires();
        } else if (kind < 89) {
            if (maybe(50)) {
                due("image()", x.image(), m.image());
            } else {
                due("back()", x.back(), m.back());
            }
        } else if (kind < 94) {
            callOfTrials();
        } else {
            callOfRows();
        }
    }

    private void callOfRunners() {
        int r = anyRunner();
        int kind = roll(10);
        if (kind < 2) {
            newRunner((int) (seed % 6));
        } else if (kind < 4) {
            int box = m.isRunner(r) ? m.w.runners.get(r).box : 0;
            int s = maybe(20) ? -1 : slotWith(box, 12);
            due("keeper(" + r + ", " + s + ")", x.keeper(r, s), m.keeper(r, s));
        } else if (kind < 5) {
            int v = roll(20);
            due("tell(" + r + ", " + v + ")", x.tell(r, v), m.tell(r, v));
        } else if (kind < 8) {
            int place = roll(6) - (maybe(5) ? 2 : 0);
            due("resume(" + r + ", " + place + ")", x.resume(r, place), m.resume(r, place));
        } else if (kind < 9) {
            int rule = maybe(5) ? roll(5) - 2 : roll(2);
            due("rule(" + rule + ")", x.rule(rule), m.rule(rule));
        } else {
            int s = roll(5);
            if (s < 4 && maybe(80)) {
                int[] row = new int[roll(20)];
                for (int i = 0; i < row.length; i++) {
                    row[i] = roll(Math.max(1, m.w.runners.size()) + 1) - (maybe(10) ? 1 : 0);
                }
                sheet(s, row);
            }
            if (maybe(60)) {
                due("time(" + s + ")", x.time(s), m.time(s));
            } else {
                int t = anyThing();
                due("in(" + t + ", " + s + ")", x.in(t, s), m.in(t, s));
            }
        }
    }

    private void feedAll(String s) {
        due("wipe()", x.wipe(), m.wipe());
        for (int i = 0; i < s.length(); i++) {
            int v = s.charAt(i);
            due("feed " + s.charAt(i), x.feed(v, 1), m.feed(v, 1));
        }
    }

    private String letters() {
        StringBuilder all = new StringBuilder();
        for (int i = 0; i < 4; i++) {
            if (maybe(50)) {
                all.append("rwlt".charAt((i * (1 + 2 * (int) (seed % 2))) % 4));
            }
        }
        return all.length() == 0 ? "r" : all.toString();
    }

    private String statement() {
        String blank = maybe(10) ? "  " : " ";
        int kind = roll(3);
        if (kind == 0) {
            return "gets" + blank + anyBox() + " " + anyThing() + blank + letters();
        }
        if (kind == 1) {
            return "never " + anyBox() + blank + anyThing() + " " + letters();
        }
        return "apart " + anyBox() + blank + anyBox();
    }

    private void callOfWires() {
        int kind = roll(10);
        if (kind < 5) {
            StringBuilder all = new StringBuilder(statement());
            int more = roll(3);
            for (int i = 0; i < more; i++) {
                all.append(';').append(statement());
            }
            if (maybe(25)) {
                all.setCharAt(roll(all.length()), SIGNS.charAt(roll(SIGNS.length())));
            }
            if (maybe(10)) {
                all.setLength(roll(all.length()));
            }
            if (maybe(10)) {
                all.insert(roll(all.length() + 1), SIGNS.charAt(roll(SIGNS.length())));
            }
            feedAll(all.toString());
            due("text()", x.text(), m.text());
        } else if (kind < 6) {
            int v = roll(1 << 30) * 4 + roll(4);
            int n = roll(7) - 1;
            due("feed(" + v + ", " + n + ")", x.feed(v, n), m.feed(v, n));
        } else if (kind < 7) {
            int box = anyBox();
            int thing = anyThing();
            due("could(" + box + ", " + thing + ")", x.could(box, thing), m.could(box, thing));
        } else if (kind < 8) {
            int box = anyBox();
            int thing = anyThing();
            int rights = maybe(10) ? roll(20) - 2 : 1 + roll(15);
            due("when(" + box + ", " + thing + ", " + rights + ")", x.when(box, thing, rights), m.when(box, thing, rights));
        } else if (kind < 9) {
            due("image()", x.image(), m.image());
        } else {
            due("back()", x.back(), m.back());
        }
    }

    private void callOfTrials() {
        int kind = roll(3);
        if (kind == 0) {
            int runners = 10 * anyRunner() + anyRunner();
            int rule = maybe(5) ? roll(5) - 2 : roll(2);
            int toldNumbers = maybe(5) ? roll(2000) - 100 : 100 * (2 + roll(4)) + 1 + roll(20);
            due("leak(" + runners + ", " + rule + ", " + toldNumbers + ")", x.leak(runners, rule, toldNumbers),
                m.leak(runners, rule, toldNumbers));
        } else if (kind == 1) {
            int r = anyRunner();
            due("late(" + r + ")", x.late(r), m.late(r));
        } else {
            int n = roll(6);
            due("lay(" + n + ")", x.lay(n), m.lay(n));
            for (int i = 0; i < n; i++) {
                int v = roll(Math.max(1, m.w.runners.size()) + 1) - 1;
                due("write(" + i + ", " + v + ")", x.write(i, v), m.write(i, v));
            }
            due("judge()", x.judge(), m.judge());
        }
    }

    private void callOfRows() {
        int kind = roll(8);
        int s = roll(6) - 1;
        int i = roll(70) - 2;
        int j = roll(70) - 2;
        int n = roll(40) - 2;
        switch (kind) {
            case 0: due("sheet(" + s + ", " + n + ")", x.sheet(s, n), m.sheet(s, n)); break;
            case 1: due("set(" + s + ", " + i + ", " + j + ")", x.set(s, i, j), m.set(s, i, j)); break;
            case 2: due("lay(" + i + ")", x.lay(i), m.lay(i)); break;
            case 3: due("write(" + i + ", " + j + ")", x.write(i, j), m.write(i, j)); break;
            case 4: due("tear()", x.tear(), m.tear()); break;
            case 5: due("row(" + i + ")", x.row(i), m.row(i)); break;
            case 6: due("copy(" + s + ", " + i + ", " + j + ", " + n + ")", x.copy(s, i, j, n), m.copy(s, i, j, n)); break;
            default: due("status(" + (i - 10) + ")", x.status(i - 10), m.status(i - 10)); break;
        }
    }

    // ---- all that can be looked at

    private void lookAtAll() {
        int kept = told.size();
        for (int t = -1; t <= 120 && !wrong; t++) {
            for (int what = -1; what <= 10; what++) {
                due("token(" + t + ", " + what + ")", x.token(t, what), m.token(t, what));
            }
            due("below(" + t + ")", x.below(t), m.below(t));
            int other = anyToken();
            due("isBelow(" + t + ", " + other + ")", x.isBelow(t, other), m.isBelow(t, other));
        }
        for (int t = -1; t <= 40 && !wrong; t++) {
            for (int what = -1; what <= 6; what++) {
                due("thing(" + t + ", " + what + ")", x.thing(t, what), m.thing(t, what));
            }
            for (int i = -1; i <= 10; i++) {
                due("slot(" + t + ", " + i + ")", x.slot(t, i), m.slot(t, i));
            }
            int i = roll(34) - 1;
            due("out(" + t + ", " + i + ")", x.out(t, i), m.out(t, i));
            due("out(" + t + ", 0)", x.out(t, 0), m.out(t, 0));
        }
        for (int r = -1; r <= 8 && !wrong; r++) {
            for (int what = -1; what <= 9; what++) {
                due("look(" + r + ", " + what + ")", x.look(r, what), m.look(r, what));
            }
            int k = roll(10) - 1;
            int i = roll(6) - 1;
            due("step(" + r + ", " + k + ", " + i + ")", x.step(r, k, i), m.step(r, k, i));
        }
        for (int what = -1; what <= 12; what++) {
            due("count(" + what + ")", x.count(what), m.count(what));
        }
        for (int wish = -1; wish <= m.w.wishes.size(); wish++) {
            due("show(" + wish + ")", x.show(wish), m.show(wish));
        }
        for (int i = 0; i < 3; i++) {
            int box = anyBox();
            int thing = anyThing();
            due("could(" + box + ", " + thing + ")", x.could(box, thing), m.could(box, thing));
            int rights = 1 + roll(15);
            due("when(" + box + ", " + thing + ", " + rights + ")", x.when(box, thing, rights), m.when(box, thing, rights));
        }
        for (int by = -9; by <= -1; by++) {
            due("status(" + by + ")", x.status(by), m.status(by));
        }
        roomIsKept();
        while (!wrong && told.size() > kept) {
            told.remove(told.size() - 1);
        }
    }

    /** Room is parted, never twice: all of it is in tokens, things but the first, and the pool. */
    private void roomIsKept() {
        int[] price = {10, 40, 5, 3, 2, 1};
        int all = x.count(4);
        for (int t = 0; t < 120; t++) {
            all += m.w.toks.containsKey(t) ? x.token(t, 3) : 0;
        }
        for (int t = 1; t < 40; t++) {
            all += m.w.things.containsKey(t) ? price[x.thing(t, 0)] : 0;
        }
        due("room in all", all, 960);
    }
}
