import java.util.ArrayList;
import java.util.Arrays;
import java.util.HashSet;
import java.util.List;
import java.util.Map;
import java.util.Set;
import java.util.TreeMap;
import java.util.TreeSet;

/**
 * A second, slow telling of the document, written apart from the class: ModelTest lets both
 * answer the same calls. Objects in maps and recursion here, rows of numbers there.
 */
final class Model {
    static final class Tok {
        int kind, thing = -1, rights, room, lender = -1, box, slot, seal = -1, last = -1;
        boolean doomed;

        Tok copy() {
            Tok t = new Tok();
            t.kind = kind;
            t.thing = thing;
            t.rights = rights;
            t.room = room;
            t.lender = lender;
            t.box = box;
            t.slot = slot;
            t.seal = seal;
            t.last = last;
            t.doomed = doomed;
            return t;
        }
    }

    static final class Thing {
        int kind, made = -1, number, written;
        List<Integer> out = new ArrayList<>();
        List<Integer> in = new ArrayList<>();

        Thing copy() {
            Thing t = new Thing();
            t.kind = kind;
            t.made = made;
            t.number = number;
            t.written = written;
            t.out.addAll(out);
            t.in.addAll(in);
            return t;
        }
    }

    static final class Runner {
        int box, state, place, acc, keeper = -1, gate = -1, server = -1, serves = -1, b, c, since;
        List<int[]> steps = new ArrayList<>();

        Runner copy() {
            Runner r = new Runner();
            r.box = box;
            r.state = state;
            r.place = place;
            r.acc = acc;
            r.keeper = keeper;
            r.gate = gate;
            r.server = server;
            r.serves = serves;
            r.b = b;
            r.c = c;
            r.since = since;
            r.steps.addAll(steps);
            return r;
        }
    }

    static final class Wish {
        boolean apart, over;
        int x, y, rights;

        Wish copy() {
            Wish w = new Wish();
            w.apart = apart;
            w.over = over;
            w.x = x;
            w.y = y;
            w.rights = rights;
            return w;
        }
    }

    static final class World {
        TreeMap<Integer, Tok> toks = new TreeMap<>();
        TreeMap<Integer, Thing> things = new TreeMap<>();
        List<Runner> runners = new ArrayList<>();
        List<Wish> wishes = new ArrayList<>();
        int[] time = {};
        int now, pool, rule, last = -1, faults;

        World copy() {
            World w = new World();
            toks.forEach((k, v) -> w.toks.put(k, v.copy()));
            things.forEach((k, v) -> w.things.put(k, v.copy()));
            runners.forEach(r -> w.runners.add(r.copy()));
            wishes.forEach(x -> w.wishes.add(x.copy()));
            w.time = time.clone();
            w.now = now;
            w.pool = pool;
            w.rule = rule;
            w.last = last;
            w.faults = faults;
            return w;
        }
    }

    static final class Fault extends RuntimeException {
        private static final long serialVersionUID = 1;
    }

    static final int[] COST = {10, 40, 5, 3, 2, 1};

    World w = new World();
    World kept;
    int[][] sheets = new int[4][];
    int[] row;
    List<Integer> tape = new ArrayList<>();
    int[] refusals = new int[9];
    /** ONCE tokens that go behind what is being done. */
    List<Integer> spent = new ArrayList<>();

    Model() {
        Thing box = new Thing();
        box.kind = 1;
        w.things.put(0, box);
        Tok t = new Tok();
        t.rights = 31;
        t.room = 960;
        w.toks.put(0, t);
    }

    // ---- what goes

    void goToken(int n) {
        Tok t = w.toks.get(n);
        if (t == null) {
            return;
        }
        for (int u : new TreeSet<>(w.toks.keySet())) {
            if (w.toks.containsKey(u) && w.toks.get(u).lender == n) {
                goToken(u);
            }
        }
        if (w.toks.containsKey(t.lender)) {
            w.toks.get(t.lender).room += t.room;
        } else {
            w.pool += t.room;
        }
        w.toks.remove(n);
        for (Thing x : w.things.values()) {
            if (x.made == n) {
                x.made = -1;
            }
        }
    }

    int tokensOf(int thing) {
        int n = 0;
        for (Tok t : w.toks.values()) {
            if (t.thing == thing) {
                n++;
            }
        }
        return n;
    }

    void go(Set<Integer> first) {
        Set<Integer> going = new TreeSet<>(first);
        while (!going.isEmpty()) {
            for (int t : going) {
                goToken(t);
            }
            going = new TreeSet<>();
            for (int x : new TreeSet<>(w.things.keySet())) {
                if (x != 0 && tokensOf(x) == 0) {
                    going.addAll(goThing(x));
                }
            }
        }
    }

    Set<Integer> goThing(int n) {
        Thing x = w.things.remove(n);
        if (w.toks.containsKey(x.made)) {
            w.toks.get(x.made).room += COST[x.kind];
        } else {
            w.pool += COST[x.kind];
        }
        Set<Integer> more = new TreeSet<>();
        for (Map.Entry<Integer, Tok> e : w.toks.entrySet()) {
            if (e.getValue().seal == n) {
                e.getValue().seal = 40;
            }
            if (x.kind == 1 && e.getValue().box == n) {
                more.add(e.getKey());
            }
        }
        for (Wish wish : w.wishes) {
            if (wish.x == n || wish.y == n) {
                wish.over = true;
            }
        }
        for (Runner r : w.runners) {
            if (x.kind == 1 && r.box == n && r.state != 4) {
                halt(r, 4);
            }
            if ((x.kind == 2 || x.kind == 3) && (r.state == 1 || r.state == 2) && r.gate == n) {
                halt(r, 3);
            }
            if ((x.kind == 2 || x.kind == 3) && r.keeper == n) {
                r.keeper = -1;
            }
        }
        return more;
    }

    int numberOf(Runner r) {
        return w.runners.indexOf(r);
    }

    void halt(Runner r, int state) {
        r.state = state;
        r.gate = -1;
        if (r.serves >= 0) {
            Runner other = w.runners.get(r.serves);
            r.serves = -1;
            awake(other, -1);
        }
        for (Runner s : w.runners) {
            if (s.serves == numberOf(r)) {
                s.serves = -1;
            }
        }
        r.server = -1;
    }

    void awake(Runner r, int acc) {
        r.state = 0;
        r.acc = acc;
        r.place++;
        r.gate = -1;
        r.server = -1;
    }

    void settle() {
        Set<Integer> all = new TreeSet<>(spent);
        spent.clear();
        go(all);
    }

    // ---- tokens

    Integer at(int box, int slot) {
        for (Map.Entry<Integer, Tok> e : w.toks.entrySet()) {
            if (e.getValue().box == box && e.getValue().slot == slot) {
                return e.getKey();
            }
        }
        return null;
    }

    boolean isBox(int b) {
        return w.things.containsKey(b) && w.things.get(b).kind == 1;
    }

    boolean isGate(int b) {
        return w.things.containsKey(b) && (w.things.get(b).kind == 2 || w.things.get(b).kind == 3);
    }

    static void must(boolean so) {
        if (!so) {
            throw new Fault();
        }
    }

    /** The token in a slot that fits, else a fault. */
    int fitting(int box, int slot, int rights) {
        Integer n = at(box, slot);
        must(n != null);
        Tok t = w.toks.get(n);
        must(t.seal == -1 && !t.doomed && (t.last == -1 || w.now <= t.last));
        for (int bit = 1; bit <= 16; bit *= 2) {
            must((rights & bit) == 0 || (t.rights & bit) != 0);
        }
        return n;
    }

    int lendable(int box, int slot) {
        int n = fitting(box, slot, 4);
        must(w.toks.get(n).thing >= 0);
        return n;
    }

    int free(TreeMap<Integer, ?> map, int most) {
        int n = 0;
        while (map.containsKey(n)) {
            n++;
        }
        must(n < most);
        return n;
    }

    Tok fresh(int box, int slot) {
        must(isBox(box) && slot >= 0 && slot <= 9 && at(box, slot) == null);
        int n = free(w.toks, 120);
        Tok t = new Tok();
        t.box = box;
        t.slot = slot;
        w.toks.put(n, t);
        return t;
    }

    Tok lent(int from, int kind, int box, int slot) {
        Tok a = w.toks.get(from);
        Tok t = fresh(box, slot);
        t.kind = kind;
        t.thing = a.thing;
        t.rights = a.rights;
        t.lender = from;
        t.last = a.last;
        return t;
    }

    void used(int n) {
        if (w.toks.get(n).kind == 3) {
            spent.add(n);
        }
    }

    boolean isUnder(int t, int other) {
        int up = w.toks.get(t).lender;
        return up >= 0 && (up == other || isUnder(up, other));
    }

    // ---- acts

    void deed(int box, int what, int a, int b, int c) {
        if (what == 6) {
            lent(lendable(box, a), 1, box, c);
        } else if (what == 7) {
            lent(lendable(box, a), 2, box, c).rights &= b;
        } else if (what == 8) {
            Tok t = lent(lendable(box, a), 3, box, c);
            t.rights = t.rights & 3;
        } else if (what == 9) {
            int from = fitting(box, a, 16);
            must(w.toks.get(from).thing == -1 && b >= 1 && b <= w.toks.get(from).room);
            lent(from, 1, box, c).room = b;
            w.toks.get(from).room -= b;
        } else if (what == 10) {
            int from = fitting(box, a, 16);
            must(w.toks.get(from).thing == -1 && b >= 0 && b <= 5 && COST[b] <= w.toks.get(from).room);
            int x = free(w.things, 40);
            Tok t = fresh(box, c);
            t.thing = x;
            t.rights = 15;
            Thing thing = new Thing();
            thing.kind = b;
            thing.made = from;
            w.things.put(x, thing);
            w.toks.get(from).room -= COST[b];
        } else if (what == 11) {
            int of = fitting(box, a, 4);
            int by = fitting(box, b, 2);
            must(w.toks.get(by).thing >= 0);
            w.toks.get(of).seal = w.toks.get(by).thing;
            used(by);
        } else if (what == 12) {
            must(at(box, a) != null);
            Tok of = w.toks.get(at(box, a));
            int by = fitting(box, b, 1);
            must(of.seal >= 0 && of.seal < 40 && of.seal == w.toks.get(by).thing);
            of.seal = -1;
            used(by);
        } else if (what == 13) {
            int of = fitting(box, a, 8);
            for (int t : w.toks.keySet()) {
                if (isUnder(t, of)) {
                    w.toks.get(t).doomed = true;
                }
            }
        } else if (what == 14) {
            must(at(box, a) != null);
            spent.add(at(box, a));
        } else if (what == 18) {
            int of = lendable(box, a);
            int by = fitting(box, b, 2);
            must(isBox(w.toks.get(by).thing));
            lent(of, 1, w.toks.get(by).thing, c);
            used(by);
        } else if (what == 19) {
            int by = fitting(box, b, 1);
            must(isBox(w.toks.get(by).thing));
            lent(lendable(w.toks.get(by).thing, a), 1, box, c);
            used(by);
        } else if (what == 20) {
            int of = fitting(box, a, 4);
            must(b >= 0 && b <= 998);
            Tok t = w.toks.get(of);
            t.last = t.last == -1 ? b : Math.min(t.last, b);
        } else {
            must(false);
        }
    }

    int deedLoad(int box, int slot) {
        int n = fitting(box, slot, 1);
        Thing x = w.things.get(w.toks.get(n).thing);
        must(x != null && (x.kind == 0 || x.kind == 4 || x.kind == 5));
        used(n);
        if (x.kind == 4) {
            return x.in.isEmpty() ? 0 : x.in.remove(0);
        }
        return x.kind == 0 ? x.number : w.now;
    }

    void deedStore(int box, int slot, int v) {
        int n = fitting(box, slot, 2);
        Thing x = w.things.get(w.toks.get(n).thing);
        must(x != null && (x.kind == 0 || x.kind == 4));
        used(n);
        if (x.kind == 0) {
            x.number = v;
        } else {
            x.written++;
            if (x.out.size() < 30) {
                x.out.add(v);
            }
        }
    }

    // ---- ticks

    int tick() {
        Set<Integer> three = new TreeSet<>();
        for (Map.Entry<Integer, Tok> e : w.toks.entrySet()) {
            if (e.getValue().doomed && three.size() < 3) {
                three.add(e.getKey());
            }
        }
        go(three);
        int r = choose();
        if (r >= 0) {
            w.last = r;
            stepOf(w.runners.get(r));
        }
        w.now++;
        return r;
    }

    int choose() {
        if (w.rule == 0) {
            List<Integer> order = new ArrayList<>();
            for (int r = w.last + 1; r < w.runners.size(); r++) {
                order.add(r);
            }
            for (int r = 0; r <= w.last; r++) {
                order.add(r);
            }
            for (int r : order) {
                if (w.runners.get(r).state == 0) {
                    return r;
                }
            }
            return -1;
        }
        if (w.time.length == 0) {
            return -1;
        }
        int r = w.time[w.now % w.time.length];
        if (r < 0 || r >= w.runners.size()) {
            return -1;
        }
        while (w.runners.get(r).state == 2 && w.runners.get(r).server >= 0) {
            r = w.runners.get(r).server;
        }
        return w.runners.get(r).state == 0 ? r : -1;
    }

    void stepOf(Runner r) {
        try {
            must(r.place >= 0 && r.place < r.steps.size());
            int[] s = r.steps.get(r.place);
            doStep(r, s[0], s[1], s[2], s[3]);
        } catch (Fault f) {
            spent.clear();
            fault(r);
        }
        settle();
    }

    void fault(Runner r) {
        w.faults++;
        halt(r, 3);
        for (Runner k : w.runners) {
            if (r.keeper >= 0 && k.state == 1 && k.gate == r.keeper) {
                awake(k, 100 + numberOf(r));
                return;
            }
        }
    }

    void doStep(Runner r, int what, int a, int b, int c) {
        if (what >= 15 && what <= 17) {
            must(b >= -1 && b <= 9 && c >= -1 && c <= 9);
        }
        if (what == 15) {
            call(r, a, b, c);
            return;
        }
        if (what == 16) {
            await(r, a, b, c);
            return;
        }
        if (what == 17) {
            answer(r, b);
            return;
        }
        int next = r.place + 1;
        if (what == 1) {
            r.acc = a;
        } else if (what == 2) {
            r.acc = (int) ((long) r.acc + a);
        } else if (what == 3) {
            if (r.acc != 0) {
                next = a;
            }
        } else if (what == 4) {
            r.acc = deedLoad(r.box, a);
        } else if (what == 5) {
            deedStore(r.box, a, r.acc);
        } else if (what == 0) {
            halt(r, 3);
        } else {
            must(what != 20);
            deed(r.box, what, a, b, c);
        }
        r.place = next;
    }

    void call(Runner r, int a, int b, int c) {
        int way = fitting(r.box, a, 2);
        int gate = w.toks.get(way).thing;
        must(isGate(gate));
        if (b >= 0) {
            lendable(r.box, b);
        }
        Runner taker = null;
        for (Runner s : w.runners) {
            if (s.state == 1 && s.gate == gate && taker == null) {
                taker = s;
            }
        }
        if (taker != null) {
            if (b >= 0) {
                lent(lendable(r.box, b), 1, taker.box, taker.b);
            }
            awake(taker, r.acc);
            taker.serves = numberOf(r);
            r.server = numberOf(taker);
        }
        r.state = 2;
        r.gate = gate;
        r.b = b;
        r.c = c;
        r.since = w.now;
        used(way);
    }

    void await(Runner r, int a, int b, int c) {
        int way = fitting(r.box, a, 1);
        int gate = w.toks.get(way).thing;
        must(isGate(gate) && r.serves == -1);
        while (true) {
            Runner caller = null;
            for (Runner s : w.runners) {
                boolean calls = s.state == 2 && s.gate == gate && s.server == -1;
                if (calls && (caller == null || s.since < caller.since)) {
                    caller = s;
                }
            }
            if (caller == null) {
                r.state = 1;
                r.gate = gate;
                r.b = b;
                r.c = c;
                break;
            }
            try {
                if (caller.b >= 0) {
                    lent(lendable(caller.box, caller.b), 1, r.box, b);
                }
            } catch (Fault f) {
                fault(caller);
                continue;
            }
            r.acc = caller.acc;
            r.place++;
            r.serves = numberOf(caller);
            caller.server = numberOf(r);
            break;
        }
        used(way);
    }

    void answer(Runner r, int b) {
        must(r.serves >= 0);
        Runner caller = w.runners.get(r.serves);
        if (b >= 0) {
            lent(lendable(r.box, b), 1, caller.box, caller.c);
        }
        int gate = caller.gate;
        r.serves = -1;
        awake(caller, r.acc);
        r.place++;
        if (w.things.get(gate).kind == 3) {
            for (Map.Entry<Integer, Tok> e : w.toks.entrySet()) {
                if (e.getValue().thing == gate) {
                    spent.add(e.getKey());
                }
            }
        }
    }

    // ---- what could be held

    List<int[][]> rounds() {
        List<int[][]> all = new ArrayList<>();
        int[][] now = new int[40][40];
        for (Tok t : w.toks.values()) {
            if (t.thing >= 0 && !t.doomed && t.seal == -1) {
                now[t.box][t.thing] |= t.rights & 15;
            }
        }
        all.add(now);
        while (true) {
            int[][] next = new int[40][];
            for (int x = 0; x < 40; x++) {
                next[x] = now[x].clone();
            }
            for (Tok t : w.toks.values()) {
                if (t.thing >= 0 && !t.doomed && t.seal >= 0 && t.seal < 40 && (now[t.box][t.seal] & 1) != 0) {
                    next[t.box][t.thing] |= t.rights & 15;
                }
            }
            for (int x : w.things.keySet()) {
                for (int y : w.things.keySet()) {
                    if (isBox(x) && isBox(y)) {
                        pair(now, next, x, y);
                    }
                }
            }
            if (Arrays.deepEquals(now, next)) {
                return all;
            }
            all.add(next);
            now = next;
        }
    }

    void pair(int[][] now, int[][] next, int x, int y) {
        for (int g : w.things.keySet()) {
            if (isGate(g) && (now[x][g] & 2) != 0 && (now[y][g] & 1) != 0) {
                gift(now, next, x, y);
                gift(now, next, y, x);
            }
        }
        if ((now[x][y] & 2) != 0) {
            gift(now, next, x, y);
        }
        if ((now[x][y] & 1) != 0) {
            gift(now, next, y, x);
        }
    }

    static void gift(int[][] now, int[][] next, int from, int to) {
        for (int t = 0; t < 40; t++) {
            if ((now[from][t] & 4) != 0) {
                next[to][t] |= now[from][t];
            }
        }
    }

    // ---- the face

    int refuse(int why) {
        refusals[-why]++;
        return why;
    }

    int zero(int why) {
        refuse(why);
        return 0;
    }

    int act(int box, int what, int a, int bc) {
        if (!isBox(box)) {
            return refuse(-3);
        }
        if (what < 6 || what > 20 || what >= 15 && what <= 17) {
            return refuse(-5);
        }
        try {
            must(bc >= 0);
            deed(box, what, a, bc / 1000 - 1, bc % 1000 - 1);
        } catch (Fault f) {
            spent.clear();
            return refuse(-7);
        }
        settle();
        return 1;
    }

    int load(int box, int slot) {
        if (!isBox(box) || slot < 0 || slot > 9) {
            return zero(-3);
        }
        try {
            int v = deedLoad(box, slot);
            settle();
            return v;
        } catch (Fault f) {
            spent.clear();
            return zero(-7);
        }
    }

    int store(int box, int slot, int v) {
        if (!isBox(box) || slot < 0 || slot > 9) {
            return refuse(-3);
        }
        try {
            deedStore(box, slot, v);
            settle();
            return 1;
        } catch (Fault f) {
            spent.clear();
            return refuse(-7);
        }
    }

    int thing(int thing, int what) {
        Thing x = w.things.get(thing);
        if (x == null) {
            return refuse(-3);
        }
        int[] all = {x.kind, x.made, x.number, tokensOf(thing), x.written, x.in.size()};
        return what < 0 || what > 5 ? refuse(-7) : all[what];
    }

    int out(int thing, int i) {
        Thing x = w.things.get(thing);
        if (x == null) {
            return zero(-3);
        }
        if (x.kind != 4) {
            return zero(-5);
        }
        return i < 0 || i >= x.out.size() ? zero(-3) : x.out.get(i);
    }

    int token(int token, int what) {
        Tok t = w.toks.get(token);
        if (t == null) {
            return refuse(-3);
        }
        int[] all = {t.kind, t.thing, t.rights, t.room, t.lender, t.box, t.slot, t.seal, t.last, t.doomed ? 1 : 0};
        return what < 0 || what > 9 ? refuse(-7) : all[what];
    }

    int slot(int box, int slot) {
        if (!isBox(box) || slot < 0 || slot > 9) {
            return refuse(-3);
        }
        Integer n = at(box, slot);
        return n == null ? -1 : n;
    }

    int below(int token) {
        if (!w.toks.containsKey(token)) {
            return refuse(-3);
        }
        int n = 0;
        for (int t : w.toks.keySet()) {
            n += isUnder(t, token) ? 1 : 0;
        }
        return n;
    }

    int isBelow(int token, int other) {
        if (!w.toks.containsKey(token) || !w.toks.containsKey(other)) {
            return refuse(-3);
        }
        return isUnder(token, other) ? 1 : 0;
    }

    int runner(int box, int sheet) {
        if (!isBox(box) || sheet < 0 || sheet > 3) {
            return refuse(-3);
        }
        if (sheets[sheet] == null) {
            return refuse(-2);
        }
        if (w.runners.size() == 8) {
            return refuse(-8);
        }
        Runner r = new Runner();
        r.box = box;
        for (int k = 0; k + 3 < sheets[sheet].length && r.steps.size() < 40; k += 4) {
            r.steps.add(Arrays.copyOfRange(sheets[sheet], k, k + 4));
        }
        w.runners.add(r);
        return w.runners.size() - 1;
    }

    boolean isRunner(int r) {
        return r >= 0 && r < w.runners.size();
    }

    int keeper(int runner, int slot) {
        if (!isRunner(runner)) {
            return refuse(-3);
        }
        Runner r = w.runners.get(runner);
        try {
            if (slot != -1) {
                must(r.state != 4);
                int n = fitting(r.box, slot, 1);
                must(isGate(w.toks.get(n).thing));
                r.keeper = w.toks.get(n).thing;
                used(n);
            } else {
                r.keeper = -1;
            }
            settle();
            return 1;
        } catch (Fault f) {
            return refuse(-7);
        }
    }

    int look(int runner, int what) {
        if (!isRunner(runner)) {
            return refuse(-3);
        }
        Runner r = w.runners.get(runner);
        int[] all = {r.box, r.state, r.place, r.acc, r.keeper, r.gate, r.server, r.serves, r.steps.size()};
        return what < 0 || what > 8 ? refuse(-7) : all[what];
    }

    int step(int runner, int k, int i) {
        if (!isRunner(runner) || k < 0 || k >= w.runners.get(runner).steps.size() || i < 0 || i > 3) {
            return zero(-3);
        }
        return w.runners.get(runner).steps.get(k)[i];
    }

    int tell(int runner, int v) {
        if (!isRunner(runner)) {
            return refuse(-3);
        }
        if (w.runners.get(runner).state != 0) {
            return refuse(-7);
        }
        w.runners.get(runner).acc = v;
        return 1;
    }

    int resume(int runner, int place) {
        if (!isRunner(runner)) {
            return refuse(-3);
        }
        Runner r = w.runners.get(runner);
        if (place < 0 || place > 40 || r.state != 3) {
            return refuse(-7);
        }
        r.state = 0;
        r.place = place;
        return 1;
    }

    int rule(int rule) {
        if (rule != 0 && rule != 1) {
            return refuse(-7);
        }
        int before = w.rule;
        w.rule = rule;
        return before;
    }

    int time(int sheet) {
        if (sheet < 0 || sheet > 3) {
            return refuse(-3);
        }
        if (sheets[sheet] == null) {
            return refuse(-2);
        }
        w.time = Arrays.copyOf(sheets[sheet], Math.min(16, sheets[sheet].length));
        return w.time.length;
    }

    int in(int thing, int sheet) {
        if (!w.things.containsKey(thing) || sheet < 0 || sheet > 3) {
            return refuse(-3);
        }
        if (sheets[sheet] == null) {
            return refuse(-2);
        }
        Thing x = w.things.get(thing);
        if (x.kind != 4) {
            return refuse(-5);
        }
        x.in.clear();
        for (int v : sheets[sheet]) {
            if (x.in.size() < 30) {
                x.in.add(v);
            }
        }
        return x.in.size();
    }

    int run(int n) {
        if (n < 0) {
            return refuse(-4);
        }
        if (n < 1 || n > 200) {
            return refuse(-7);
        }
        if (w.now + n > 9999) {
            return refuse(-8);
        }
        int done = 0;
        for (int i = 0; i < n; i++) {
            done += tick() >= 0 ? 1 : 0;
        }
        return done;
    }

    int leak(int runners, int rule, int told) {
        int from = Math.floorDiv(runners, 10);
        int to = Math.floorMod(runners, 10);
        if (!isRunner(from) || !isRunner(to)) {
            return refuse(-3);
        }
        int k = Math.floorDiv(told, 100);
        int n = Math.floorMod(told, 100);
        boolean so = (rule == 0 || rule == 1) && k >= 2 && k <= 16 && n >= 1 && n <= 60;
        if (!so || from == to || w.runners.get(from).state != 0) {
            return refuse(-7);
        }
        if (w.now + n > 9999) {
            return refuse(-8);
        }
        World before = w;
        Set<String> sights = new HashSet<>();
        for (int j = 0; j < k; j++) {
            w = before.copy();
            w.rule = rule;
            w.runners.get(from).acc = j;
            StringBuilder sight = new StringBuilder();
            for (int i = 0; i < n; i++) {
                tick();
                Runner r = w.runners.get(to);
                sight.append(r.state).append(' ').append(r.place).append(' ').append(r.acc).append(' ');
                for (int s = 0; s < 10 && r.state != 4; s++) {
                    sight.append(at(r.box, s) == null ? '.' : '#');
                }
                sight.append('\n');
            }
            sights.add(sight.toString());
        }
        w = before;
        return sights.size();
    }

    int late(int runner) {
        if (!isRunner(runner)) {
            return refuse(-3);
        }
        World before = w;
        w = before.copy();
        int answer = -1;
        for (int n = 0; n <= 60 && answer == -1; n++) {
            if (w.runners.get(runner).state == 0) {
                answer = n;
            } else if (w.now == 9999) {
                break;
            } else {
                tick();
            }
        }
        w = before;
        return answer;
    }

    int judge() {
        if (row == null) {
            return refuse(-2);
        }
        if (row.length == 0) {
            return refuse(-5);
        }
        if (w.now + row.length > 9999) {
            return refuse(-8);
        }
        World before = w;
        w = before.copy();
        int answer = -1;
        for (int i = 0; i < row.length; i++) {
            if (tick() != row[i] && answer == -1) {
                answer = i;
            }
        }
        w = before;
        return answer;
    }

    int could(int box, int thing) {
        if (!isBox(box) || !w.things.containsKey(thing)) {
            return refuse(-3);
        }
        List<int[][]> all = rounds();
        return all.get(all.size() - 1)[box][thing];
    }

    int when(int box, int thing, int rights) {
        if (!isBox(box) || !w.things.containsKey(thing)) {
            return refuse(-3);
        }
        if (rights < 1 || rights > 15) {
            return refuse(-7);
        }
        List<int[][]> all = rounds();
        for (int i = 0; i < all.size(); i++) {
            if ((all.get(i)[box][thing] & rights) == rights) {
                return i;
            }
        }
        return -1;
    }

    int show(int wish) {
        if (wish < 0 || wish >= w.wishes.size()) {
            return refuse(-3);
        }
        Wish v = w.wishes.get(wish);
        if (v.over) {
            return -1;
        }
        List<int[][]> all = rounds();
        for (int i = 0; i < all.size(); i++) {
            int[][] held = all.get(i);
            if (!v.apart && (held[v.x][v.y] & v.rights) != 0) {
                return i;
            }
            for (int t = 0; t < 40 && v.apart; t++) {
                if ((held[v.x][t] & 7) != 0 && (held[v.y][t] & 7) != 0) {
                    return i;
                }
            }
        }
        return -1;
    }

    int feed(int bytes, int n) {
        if (n < 0) {
            return refuse(-4);
        }
        if (n > 4) {
            return refuse(-7);
        }
        if (tape.size() + n > 160) {
            return refuse(-8);
        }
        byte[] four = {(byte) (bytes >> 24), (byte) (bytes >> 16), (byte) (bytes >> 8), (byte) bytes};
        for (int i = 4 - n; i < 4; i++) {
            tape.add(four[i] & 255);
        }
        return tape.size();
    }

    int wipe() {
        int n = tape.size();
        tape.clear();
        return n;
    }

    private static final String BLANKS = "( +)";
    private static final String N = "([0-9]{1,2})";

    /** Whether some text begins with this: its last statement is tried with each end that it could have. */
    static boolean isBeginning(String s) {
        String[] parts = s.split(";", -1);
        for (int i = 0; i < parts.length - 1; i++) {
            if (!isStatement(parts[i])) {
                return false;
            }
        }
        String end = parts[parts.length - 1];
        for (String word : new String[] {"gets", "never", "apart"}) {
            if (word.startsWith(end)) {
                return true;
            }
            if (end.startsWith(word) && isRest(end.substring(word.length()), !word.equals("apart"))) {
                return true;
            }
        }
        return false;
    }

    static boolean isRest(String s, boolean withRights) {
        String[] tails = {"", "1", " 1", " 1 1", "1 1", " 1 1 r", " 1 r", "1 r", "1 1 r", " r", "r"};
        for (String tail : tails) {
            if (isStatement((withRights ? "gets" : "apart") + s + tail)) {
                return true;
            }
        }
        return false;
    }

    static boolean isStatement(String s) {
        if (s.matches("apart" + BLANKS + N + BLANKS + N)) {
            return true;
        }
        if (!s.matches("(gets|never)" + BLANKS + N + BLANKS + N + BLANKS + "[rwlt]+")) {
            return false;
        }
        String letters = s.substring(s.lastIndexOf(' ') + 1);
        return letters.chars().distinct().count() == letters.length();
    }

    static boolean isText(String s) {
        for (String part : s.split(";", -1)) {
            if (!isStatement(part)) {
                return false;
            }
        }
        return true;
    }

    int text() {
        StringBuilder all = new StringBuilder();
        for (int b : tape) {
            all.append((char) b);
        }
        String s = all.toString();
        for (int i = 1; i <= s.length(); i++) {
            if (!isBeginning(s.substring(0, i))) {
                return -10 - (i - 1);
            }
        }
        if (!isText(s)) {
            return -10 - s.length();
        }
        World before = w.copy();
        int done = 0;
        try {
            for (String statement : s.split(";")) {
                wire(statement.split(" +"));
                done++;
            }
        } catch (Fault f) {
            w = before;
            return refuse(-7);
        }
        tape.clear();
        return done;
    }

    void wire(String[] words) {
        int x = Integer.parseInt(words[1]);
        int y = Integer.parseInt(words[2]);
        int rights = 0;
        for (int i = 0; words.length > 3 && i < words[3].length(); i++) {
            rights += 1 << "rwlt".indexOf(words[3].charAt(i));
        }
        must(isBox(x) && w.things.containsKey(y));
        if (words[0].equals("gets")) {
            int slot = 0;
            while (at(x, slot) != null) {
                slot++;
            }
            Tok t = fresh(x, slot);
            t.thing = y;
            t.rights = rights;
            return;
        }
        must(w.wishes.size() < 20);
        Wish v = new Wish();
        v.apart = words[0].equals("apart");
        must(!v.apart || isBox(y));
        v.x = x;
        v.y = y;
        v.rights = rights;
        w.wishes.add(v);
    }

    int count(int what) {
        int doomed = 0;
        for (Tok t : w.toks.values()) {
            doomed += t.doomed ? 1 : 0;
        }
        int[] all = {w.now, w.things.size(), w.toks.size(), doomed, w.pool, w.runners.size(), w.wishes.size(),
            tape.size(), w.rule, w.last, w.faults, w.time.length};
        return what < 0 || what > 11 ? refuse(-7) : all[what];
    }

    int image() {
        kept = w.copy();
        return w.now;
    }

    int back() {
        if (kept == null) {
            return refuse(-2);
        }
        w = kept.copy();
        return w.now;
    }

    int sheet(int sheet, int n) {
        if (sheet < 0 || sheet > 3) {
            return refuse(-3);
        }
        if (n < -1) {
            return refuse(-4);
        }
        if (n > 160) {
            return refuse(-7);
        }
        sheets[sheet] = n == -1 ? null : new int[n];
        return n;
    }

    int set(int sheet, int i, int v) {
        if (sheet < 0 || sheet > 3) {
            return zero(-3);
        }
        if (sheets[sheet] == null) {
            return zero(-2);
        }
        if (i < 0 || i >= sheets[sheet].length) {
            return zero(-3);
        }
        int before = sheets[sheet][i];
        sheets[sheet][i] = v;
        return before;
    }

    int lay(int n) {
        if (n < 0) {
            return refuse(-4);
        }
        if (n > 60) {
            return refuse(-7);
        }
        row = new int[n];
        return n;
    }

    int write(int i, int v) {
        if (row == null) {
            return zero(-2);
        }
        if (i < 0 || i >= row.length) {
            return zero(-3);
        }
        int before = row[i];
        row[i] = v;
        return before;
    }

    int tear() {
        boolean was = row != null;
        row = null;
        return was ? 1 : 0;
    }

    int row(int i) {
        if (row == null) {
            return zero(-2);
        }
        return i < 0 || i >= row.length ? zero(-3) : row[i];
    }

    int copy(int sheet, int i, int j, int n) {
        if (sheet < 0 || sheet > 3) {
            return refuse(-3);
        }
        if (sheets[sheet] == null || row == null) {
            return refuse(-2);
        }
        if (n < 0) {
            return refuse(-4);
        }
        if (i < 0 || j < 0 || (long) i + n > sheets[sheet].length || (long) j + n > row.length) {
            return refuse(-6);
        }
        for (int m = 0; m < n; m++) {
            row[j + m] = sheets[sheet][i + m];
        }
        return n;
    }

    int status(int by) {
        return by < -8 || by > -2 ? refuse(-7) : refusals[-by];
    }
}
