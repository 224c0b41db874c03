import java.util.ArrayList;
import java.util.Arrays;
import java.util.List;
import java.util.regex.Matcher;
import java.util.regex.Pattern;

/**
 * The document once more, in its plainest form and with the whole Java library: every way is tried, every hour
 * is asked for, images are copies. RandomRunsTest compares it with the class, call by call.
 */
public final class Model {
    private static final String KINDS = "track send hear both far shared array";

    static final class D {
        int place, size, turn;
        boolean broken;
    }

    static final class B {
        int number;
        int sent = -1;

        B(int number) {
            this.number = number;
        }
    }

    static final class O {
        int sent, again = -1, last, state, done = -1, there = Integer.MAX_VALUE;
    }

    static final class C {
        int loud, far, room, rate, made, had, dropped, lost;
        int[] from = new int[3];
        int[] length = new int[3];
        List<B> blocks = new ArrayList<>();
        List<O> orders = new ArrayList<>();
        int[] table = {0, 1, 2, 3, 4, 5, 6, 7};
        boolean[] heard = new boolean[8];
    }

    static final class A {
        String kind;
        int craft, n, from, to, worth, state, dish = -1, begins = -1;
    }

    static final class W {
        int hour;
        int[][] rain = new int[3][14];
        List<D> dishes = new ArrayList<>();
        List<C> craft = new ArrayList<>();
        List<A> askings = new ArrayList<>();
        int[] odds = new int[64];
        boolean[] looked = new boolean[64];

        W copy() {
            W w = new W();
            w.hour = hour;
            for (int p = 0; p < 3; p++) {
                w.rain[p] = rain[p].clone();
            }
            for (D d : dishes) {
                D e = new D();
                e.place = d.place;
                e.size = d.size;
                e.turn = d.turn;
                e.broken = d.broken;
                w.dishes.add(e);
            }
            for (C c : craft) {
                w.craft.add(copy(c));
            }
            for (A a : askings) {
                A b = new A();
                b.kind = a.kind;
                b.craft = a.craft;
                b.n = a.n;
                b.from = a.from;
                b.to = a.to;
                b.worth = a.worth;
                b.state = a.state;
                b.dish = a.dish;
                b.begins = a.begins;
                w.askings.add(b);
            }
            w.odds = odds.clone();
            w.looked = looked.clone();
            return w;
        }

        private static C copy(C c) {
            C d = new C();
            d.loud = c.loud;
            d.far = c.far;
            d.room = c.room;
            d.rate = c.rate;
            d.made = c.made;
            d.had = c.had;
            d.dropped = c.dropped;
            d.lost = c.lost;
            d.from = c.from.clone();
            d.length = c.length.clone();
            d.table = c.table.clone();
            d.heard = c.heard.clone();
            for (B b : c.blocks) {
                B e = new B(b.number);
                e.sent = b.sent;
                d.blocks.add(e);
            }
            for (O o : c.orders) {
                O p = new O();
                p.sent = o.sent;
                p.again = o.again;
                p.last = o.last;
                p.state = o.state;
                p.done = o.done;
                p.there = o.there;
                d.orders.add(p);
            }
            return d;
        }
    }

    /** A way to put askings on dishes: its row (dishes.size() for none), where each begins, what it weighs. */
    static final class Way {
        int[] row;
        int[] begins;
        int weight;
        int used;
    }

    private W w = new W();
    private W kept = null;
    private String tape = "";
    private final long[][] sheets = new long[4][];
    private final int[] bits = new int[4];
    private final int[] told = new int[7];

    private int tell(int finding) {
        told[-1000001 - finding]++;
        return finding;
    }

    private int beyond() {
        return tell(Due.BEYOND);
    }

    private static boolean in(int v, int least, int most) {
        return least <= v && v <= most;
    }

    private boolean isDish(int d) {
        return in(d, 0, w.dishes.size() - 1);
    }

    private boolean isCraft(int c) {
        return in(c, 0, w.craft.size() - 1);
    }

    private boolean isAsking(int a) {
        return in(a, 0, w.askings.size() - 1);
    }

    public int rain(int place, int rest, int v) {
        if (!in(place, 0, 2) || !in(rest, 0, 13) || !in(v, 0, 9)) {
            return beyond();
        }
        int was = w.rain[place][rest];
        w.rain[place][rest] = v;
        return was;
    }

    public int dish(int place, int size, int turn) {
        if (!in(place, 0, 2) || !in(size, 1, 9) || !in(turn, 0, 3)) {
            return beyond();
        }
        if (w.dishes.size() == 6) {
            return tell(Due.FULL);
        }
        D d = new D();
        d.place = place;
        d.size = size;
        d.turn = turn;
        w.dishes.add(d);
        return w.dishes.size() - 1;
    }

    public int mend(int dish, boolean broken) {
        if (!isDish(dish)) {
            return beyond();
        }
        boolean was = w.dishes.get(dish).broken;
        w.dishes.get(dish).broken = broken;
        return was != broken ? 1 : 0;
    }

    public int dishIs(int dish, int what) {
        if (!isDish(dish) || !in(what, 0, 4)) {
            return beyond();
        }
        D d = w.dishes.get(dish);
        return new int[] {d.place, d.size, d.turn, d.broken ? 1 : 0, running(w, dish)}[what];
    }

    private static int running(W w, int dish) {
        for (A a : w.askings) {
            if (a.state == 2 && a.dish == dish) {
                return w.askings.indexOf(a);
            }
        }
        return -1;
    }

    public int craft(int loud, int far, int blocks) {
        boolean found = false;
        for (int room = 1; room <= 12; room++) {
            for (int rate = 0; rate <= 6; rate++) {
                found |= 10 * room + rate == blocks;
            }
        }
        if (!in(loud, 1, 9) || !in(far, 0, 30) || !found) {
            return beyond();
        }
        if (w.craft.size() == 8) {
            return tell(Due.FULL);
        }
        C c = new C();
        c.loud = loud;
        c.far = far;
        c.room = blocks / 10;
        c.rate = blocks % 10;
        w.craft.add(c);
        return w.craft.size() - 1;
    }

    public int craftIs(int craft, int what) {
        if (!isCraft(craft) || !in(what, 0, 10)) {
            return beyond();
        }
        C c = w.craft.get(craft);
        int held = (int) c.blocks.stream().filter(b -> b.sent < 0).count();
        return new int[] {c.loud, c.far, c.room, c.rate, c.blocks.size(), held, c.made, c.had, c.dropped, c.lost,
            c.orders.size()}[what];
    }

    public int rises(int craft, int place, int clock, int n) {
        if (!isCraft(craft) || !in(place, 0, 2) || !in(clock, 0, 23) || !in(n, 0, 24)) {
            return beyond();
        }
        C c = w.craft.get(craft);
        int was = c.length[place];
        c.from[place] = clock;
        c.length[place] = n;
        return was;
    }

    private static boolean isUp(C c, int place, int hour) {
        for (int i = 0; i < c.length[place]; i++) {
            if ((c.from[place] + i) % 24 == hour % 24) {
                return true;
            }
        }
        return false;
    }

    private static int firstUp(C c, int place, int hour, int n) {
        for (int h = hour; h <= hour + 24; h++) {
            boolean all = true;
            for (int i = 0; i < n; i++) {
                all &= isUp(c, place, h + i);
            }
            if (all) {
                return h;
            }
        }
        return -1;
    }

    public int up(int craft, int place, int hour) {
        if (!isCraft(craft) || !in(place, 0, 2) || !in(hour, 0, 4000)) {
            return beyond();
        }
        return isUp(w.craft.get(craft), place, hour) ? 1 : 0;
    }

    public int rise(int craft, int place, int hour, int n) {
        if (!isCraft(craft) || !in(place, 0, 2) || !in(hour, 0, 4000) || !in(n, 1, 9)) {
            return beyond();
        }
        int h = firstUp(w.craft.get(craft), place, hour, n);
        return h < 0 ? tell(Due.NONE) : h;
    }

    private static int linkOf(W w, int craft, int dish, int hour) {
        D d = w.dishes.get(dish);
        int l = w.craft.get(craft).loud * d.size - w.rain[d.place][hour / 24 % 14];
        return d.broken || l < 0 ? 0 : l;
    }

    public int link(int craft, int dish, int hour) {
        if (!isCraft(craft) || !isDish(dish) || !in(hour, 0, 4000)) {
            return beyond();
        }
        return linkOf(w, craft, dish, hour);
    }

    public int feed(int bytes, int n) {
        if (!in(n, 1, 4)) {
            return beyond();
        }
        if (tape.length() + n > 110) {
            return tell(Due.FULL);
        }
        char[] four = {(char) (bytes >>> 24), (char) (bytes >>> 16 & 255), (char) (bytes >>> 8 & 255), (char) (bytes & 255)};
        tape += new String(four, 4 - n, n);
        return tape.length();
    }

    public int wipe() {
        int was = tape.length();
        tape = "";
        return was;
    }

    /** Each piece of the tape with its place; at the end a piece of no signs. */
    private static final class Pieces {
        final List<String> texts = new ArrayList<>();
        final List<Integer> places = new ArrayList<>();
        int at = 0;

        Pieces(String tape) {
            Matcher m = Pattern.compile("[a-z]+|[0-9]+|[^ ]", Pattern.DOTALL).matcher(tape);
            while (m.find()) {
                texts.add(m.group());
                places.add(m.start());
            }
            texts.add("");
            places.add(tape.length());
        }

        String now() {
            return texts.get(at);
        }

        boolean word(String which) {
            if (!now().equals(which)) {
                return false;
            }
            at++;
            return true;
        }

        int number(int least, int most) {
            if (!now().matches("[0-9]{1,4}") || !in(Integer.parseInt(now()), least, most)) {
                return -1;
            }
            return Integer.parseInt(texts.get(at++));
        }
    }

    private A one(Pieces p) {
        A a = new A();
        a.kind = p.now();
        if (!a.kind.matches("[a-z]+") || !Arrays.asList(KINDS.split(" ")).contains(a.kind)) {
            return null;
        }
        p.at++;
        if (!p.word("c") || (a.craft = p.number(0, w.craft.size() - 1)) < 0) {
            return null;
        }
        if (!p.word("n") || (a.n = p.number(1, 9)) < 0) {
            return null;
        }
        if (!p.word("from") || (a.from = p.number(0, 9999)) < 0) {
            return null;
        }
        if (!p.word("to") || (a.to = p.number(a.from + a.n, 9999)) < 0) {
            return null;
        }
        a.worth = 1;
        if (p.word("worth") && (a.worth = p.number(0, 999)) < 0) {
            return null;
        }
        return a;
    }

    public int asks() {
        Pieces p = new Pieces(tape);
        List<A> come = new ArrayList<>();
        boolean more = true;
        boolean good = true;
        while (more && good) {
            A a = one(p);
            good = a != null;
            if (good) {
                come.add(a);
                more = come.size() < 4 && p.word(";");
            }
        }
        if (!good || !p.now().isEmpty()) {
            tape = "";
            return -1 - p.places.get(p.at);
        }
        if (w.askings.size() + come.size() > 14) {
            return tell(Due.FULL);
        }
        w.askings.addAll(come);
        tape = "";
        return come.size();
    }

    private static int kindOf(A a) {
        return Arrays.asList(KINDS.split(" ")).indexOf(a.kind);
    }

    private static boolean hears(A a) {
        return Arrays.asList("hear", "shared", "array", "both", "far").contains(a.kind);
    }

    private static boolean sends(A a) {
        return Arrays.asList("send", "both", "far").contains(a.kind);
    }

    private static int weigh(W w, A a, int worth) {
        if (a.kind.equals("hear")) {
            return worth + 2 * a.n;
        }
        if (a.kind.equals("shared")) {
            return worth + 2 * a.n + 5;
        }
        if (a.kind.equals("array")) {
            return (worth + 2 * a.n) * 2;
        }
        if (a.kind.equals("both")) {
            return worth * 3 / 2;
        }
        if (a.kind.equals("far")) {
            return worth * 3 / 2 + w.craft.get(a.craft).far;
        }
        return worth;
    }

    public int asking(int asking, int what) {
        if (!isAsking(asking) || !in(what, 0, 9)) {
            return beyond();
        }
        A a = w.askings.get(asking);
        return new int[] {kindOf(a), a.craft, a.n, a.from, a.to, a.worth, a.state, a.dish, a.begins,
            weigh(w, a, a.worth)}[what];
    }

    public int as(int asking, int kind) {
        if (!isAsking(asking) || !in(kind, 0, 6)) {
            return beyond();
        }
        String[] those = {"0", "01", "02", "03", "034", "025", "026"};
        boolean is = those[kindOf(w.askings.get(asking))].contains("" + kind);
        return is ? asking : tell(Due.KIND);
    }

    public int worth(int asking, int v) {
        if (!isAsking(asking) || !in(v, 0, 999)) {
            return beyond();
        }
        A a = w.askings.get(asking);
        if (in(a.state, 1, 3)) {
            return tell(Due.STATE);
        }
        int was = a.worth;
        a.worth = v;
        a.state = 0;
        a.dish = -1;
        a.begins = -1;
        return was;
    }

    private List<Integer> waiting() {
        List<Integer> all = new ArrayList<>();
        for (int i = 0; i < w.askings.size(); i++) {
            if (w.askings.get(i).state == 0) {
                all.add(i);
            }
        }
        return all;
    }

    private static List<Integer> five(List<Integer> all) {
        return all.subList(0, Math.min(5, all.size()));
    }

    /** What a row of dishes comes to; null if they can't stand so. */
    private static Way way(W w, List<Integer> looked, int[] row) {
        Way r = new Way();
        r.row = row;
        r.begins = new int[row.length];
        for (int i = 0; i < row.length; i++) {
            r.begins[i] = -1;
            if (row[i] < w.dishes.size()) {
                A a = w.askings.get(looked.get(i));
                D d = w.dishes.get(row[i]);
                int first = Math.max(w.hour, a.from);
                for (A b : w.askings) {
                    if ((b.state == 1 || b.state == 2) && b.dish == row[i]) {
                        first = Math.max(first, b.begins + b.n + d.turn);
                    }
                }
                for (int k = 0; k < i; k++) {
                    if (row[k] == row[i]) {
                        first = Math.max(first, r.begins[k] + w.askings.get(looked.get(k)).n + d.turn);
                    }
                }
                int begins = firstUp(w.craft.get(a.craft), d.place, first, a.n);
                if (d.broken || begins < 0 || begins + a.n > a.to) {
                    return null;
                }
                r.begins[i] = begins;
                r.weight += weigh(w, a, a.worth);
                r.used++;
            }
        }
        return r;
    }

    private static boolean better(Way a, Way b) {
        if (b == null || a.weight != b.weight) {
            return b == null || a.weight > b.weight;
        }
        return a.used != b.used ? a.used < b.used : Arrays.compare(a.row, b.row) < 0;
    }

    private static Way thePlan(W w, List<Integer> looked) {
        int ways = (int) Math.round(Math.pow(w.dishes.size() + 1, looked.size()));
        Way best = null;
        for (int number = 0; number < ways; number++) {
            int[] row = new int[looked.size()];
            int rest = number;
            for (int i = 0; i < row.length; i++) {
                row[i] = rest % (w.dishes.size() + 1);
                rest /= w.dishes.size() + 1;
            }
            Way r = way(w, looked, row);
            if (r != null && better(r, best)) {
                best = r;
            }
        }
        return best;
    }

    private static List<Integer> planned(W w, List<Integer> looked) {
        Way best = thePlan(w, looked);
        List<Integer> in = new ArrayList<>();
        for (int i = 0; i < best.row.length; i++) {
            if (best.row[i] < w.dishes.size()) {
                in.add(looked.get(i));
            }
        }
        return in;
    }

    public int plan(int asking) {
        if (asking != -1 && !isAsking(asking)) {
            return beyond();
        }
        List<Integer> looked = five(waiting());
        Way best = thePlan(w, looked);
        if (asking == -1) {
            return best.weight;
        }
        int i = looked.indexOf(asking);
        return i < 0 || best.row[i] == w.dishes.size() ? -1 : best.row[i];
    }

    public int begins(int asking) {
        if (!isAsking(asking)) {
            return beyond();
        }
        List<Integer> looked = five(waiting());
        int i = looked.indexOf(asking);
        int begins = i < 0 ? -1 : thePlan(w, looked).begins[i];
        return begins < 0 ? tell(Due.NONE) : begins;
    }

    public int without(int asking) {
        if (!isAsking(asking)) {
            return beyond();
        }
        if (w.askings.get(asking).state != 0) {
            return tell(Due.STATE);
        }
        List<Integer> others = waiting();
        others.remove(Integer.valueOf(asking));
        return thePlan(w, five(others)).weight;
    }

    public int takes(int asking, int v) {
        if (!isAsking(asking) || !in(v, 0, 999)) {
            return beyond();
        }
        if (w.askings.get(asking).state != 0) {
            return tell(Due.STATE);
        }
        W other = w.copy();
        other.askings.get(asking).worth = v;
        List<Integer> gone = planned(w, five(waiting()));
        gone.removeAll(planned(other, five(waiting())));
        int set = 0;
        for (int a : gone) {
            set |= 1 << a;
        }
        return set;
    }

    public int bars(int asking, int other) {
        if (!isAsking(asking) || !isAsking(other) || asking == other) {
            return beyond();
        }
        if (w.askings.get(asking).state != 0 || w.askings.get(other).state != 0) {
            return tell(Due.STATE);
        }
        List<Integer> two = Arrays.asList(Math.min(asking, other), Math.max(asking, other));
        boolean alone = planned(w, List.of(asking)).size() == 1 && planned(w, List.of(other)).size() == 1;
        return alone && planned(w, two).size() < 2 ? 1 : 0;
    }

    public int judge(int s) {
        if (!in(s, 0, 3)) {
            return beyond();
        }
        if (sheets[s] == null) {
            return tell(Due.MISSING);
        }
        List<Integer> looked = five(waiting());
        if (looked.size() != sheets[s].length) {
            return tell(Due.SIZE);
        }
        int[] row = new int[looked.size()];
        for (int i = 0; i < row.length; i++) {
            row[i] = sheets[s][i] == -1 ? w.dishes.size() : (int) sheets[s][i];
            if (sheets[s][i] < -1 || sheets[s][i] >= w.dishes.size()) {
                return beyond();
            }
        }
        Way r = way(w, looked, row);
        return r == null ? -1 : r.weight;
    }

    public int hold() {
        List<Integer> looked = five(waiting());
        Way best = thePlan(w, looked);
        for (int i = 0; i < best.row.length; i++) {
            if (best.row[i] < w.dishes.size()) {
                A a = w.askings.get(looked.get(i));
                a.state = 1;
                a.dish = best.row[i];
                a.begins = best.begins[i];
            }
        }
        return best.used;
    }

    public int drop(int asking) {
        if (!isAsking(asking)) {
            return beyond();
        }
        A a = w.askings.get(asking);
        if (a.state != 1) {
            return tell(Due.STATE);
        }
        int was = a.dish;
        a.state = 0;
        a.dish = -1;
        a.begins = -1;
        return was;
    }

    private static int transmit(W w, A a) {
        C c = w.craft.get(a.craft);
        List<B> held = new ArrayList<>();
        List<B> old = new ArrayList<>();
        for (B b : c.blocks) {
            if (b.sent < 0) {
                held.add(b);
            } else if (w.hour - b.sent >= 2 * c.far) {
                old.add(b);
            }
        }
        held.addAll(old);
        int n = Math.min(held.size(), linkOf(w, a.craft, a.dish, w.hour) / 8);
        for (B b : held.subList(0, n)) {
            b.sent = w.hour;
        }
        return n;
    }

    private static void make(C c) {
        if (c.blocks.size() == c.room) {
            B goes = null;
            for (B b : c.blocks) {
                if (b.sent >= 0 && (goes == null || b.sent < goes.sent)) {
                    goes = b;
                }
            }
            if (goes != null) {
                c.dropped++;
            } else {
                c.lost++;
                goes = c.blocks.get(0);
            }
            c.blocks.remove(goes);
        }
        c.blocks.add(new B(c.made++));
    }

    private static void settle(W w, C c) {
        for (int i = 0; i < c.orders.size(); i++) {
            O o = c.orders.get(i);
            boolean lesser = true;
            for (O p : c.orders.subList(0, i)) {
                lesser &= p.state != 0;
            }
            if (o.state == 0 && o.there <= w.hour && lesser) {
                o.state = 1;
                o.done = w.hour;
            } else if (o.state == 0 && o.last <= w.hour) {
                o.state = 2;
            }
        }
    }

    /** An hour goes: how many blocks are sent. */
    private static int go(W w) {
        int sent = 0;
        for (A a : w.askings) {
            if (a.state == 1 && a.begins == w.hour) {
                a.state = 2;
            }
        }
        for (int d = 0; d < w.dishes.size(); d++) {
            for (A a : w.askings) {
                if (a.state == 2 && a.dish == d) {
                    if (w.dishes.get(d).broken) {
                        a.state = 4;
                    } else if (hears(a)) {
                        sent += transmit(w, a);
                    }
                }
            }
        }
        for (A a : w.askings) {
            if (a.state == 2 && sends(a)) {
                C c = w.craft.get(a.craft);
                for (O o : c.orders) {
                    if (o.sent == w.hour || o.again == w.hour) {
                        o.there = Math.min(o.there, w.hour + c.far);
                    }
                }
            }
        }
        for (A a : w.askings) {
            if (a.state == 2 && w.hour == a.begins + a.n - 1) {
                a.state = 3;
            }
        }
        for (C c : w.craft) {
            settle(w, c);
        }
        if (w.hour % 24 == 23) {
            for (C c : w.craft) {
                for (int i = 0; i < c.rate; i++) {
                    make(c);
                }
            }
        }
        w.hour++;
        return sent;
    }

    public int run(int n) {
        if (!in(n, 1, 100)) {
            return beyond();
        }
        if (w.hour + n > 2000) {
            return tell(Due.FULL);
        }
        for (int i = 0; i < n; i++) {
            go(w);
        }
        return w.hour;
    }

    public int block(int craft, int i, int what) {
        if (!isCraft(craft) || !in(what, 0, 2)) {
            return beyond();
        }
        C c = w.craft.get(craft);
        if (!in(i, 0, c.blocks.size() - 1)) {
            return tell(Due.NONE);
        }
        B b = c.blocks.get(i);
        return new int[] {b.number, b.sent < 0 ? 0 : 1, b.sent}[what];
    }

    public int name(int craft, int number) {
        if (!isCraft(craft) || number < 0) {
            return beyond();
        }
        C c = w.craft.get(craft);
        int before = c.blocks.size();
        c.blocks.removeIf(b -> b.number <= number && b.sent >= 0 && w.hour - b.sent >= c.far);
        c.had += before - c.blocks.size();
        return before - c.blocks.size();
    }

    public int over(int craft, int n) {
        if (!isCraft(craft) || !in(n, 1, 9)) {
            return beyond();
        }
        W other = w.copy();
        other.askings.clear();
        C c = other.craft.get(craft);
        int before = c.lost;
        for (int i = 0; i < 24 * n; i++) {
            go(other);
        }
        return c.lost - before;
    }

    public int order(int craft, int last) {
        if (!isCraft(craft) || !in(last, w.hour, 2000)) {
            return beyond();
        }
        C c = w.craft.get(craft);
        if (c.orders.size() == 12) {
            return tell(Due.FULL);
        }
        O o = new O();
        o.sent = w.hour;
        o.last = last;
        c.orders.add(o);
        return c.orders.size() - 1;
    }

    private O orderAt(int craft, int order) {
        return isCraft(craft) && in(order, 0, w.craft.get(craft).orders.size() - 1)
            ? w.craft.get(craft).orders.get(order) : null;
    }

    public int again(int craft, int order) {
        O o = orderAt(craft, order);
        if (o == null) {
            return beyond();
        }
        if (o.again >= 0 || o.sent == w.hour || o.state != 0) {
            return tell(Due.STATE);
        }
        o.again = w.hour;
        return 1;
    }

    public int orderIs(int craft, int order, int what) {
        O o = orderAt(craft, order);
        if (o == null || !in(what, 0, 4)) {
            return beyond();
        }
        return new int[] {o.sent, o.again, o.last, o.state, o.done}[what];
    }

    public int table(int craft, int s, int to, boolean heard) {
        if (!isCraft(craft) || !in(s, 0, 7) || !in(to, 0, 7)) {
            return beyond();
        }
        C c = w.craft.get(craft);
        int was = c.table[s];
        c.table[s] = to;
        c.heard[s] = heard;
        return was;
    }

    private static int days(C c, int s) {
        int at = s;
        for (int days = 0; days < 100; days++) {
            if (c.heard[at]) {
                return days;
            }
            at = c.table[at];
        }
        return -1;
    }

    public int silence(int craft, int s) {
        if (!isCraft(craft) || !in(s, 0, 7)) {
            return beyond();
        }
        int days = days(w.craft.get(craft), s);
        return days < 0 ? tell(Due.NONE) : days;
    }

    public int ever(int craft) {
        if (!isCraft(craft)) {
            return beyond();
        }
        int set = 0;
        for (int s = 0; s < 8; s++) {
            set += days(w.craft.get(craft), s) < 0 ? 1 << s : 0;
        }
        return set;
    }

    public int cell(int cell, int v) {
        if (!in(cell, 0, 63) || !in(v, 0, 99)) {
            return beyond();
        }
        int was = w.odds[cell];
        w.odds[cell] = v;
        w.looked[cell] = false;
        return was;
    }

    private static List<Integer> looks(W w) {
        List<Integer> cells = new ArrayList<>();
        for (int i = 0; i < 64; i++) {
            if (!w.looked[i] && w.odds[i] > 0) {
                cells.add(i);
            }
        }
        cells.sort((a, b) -> w.odds[a] != w.odds[b] ? w.odds[b] - w.odds[a] : a - b);
        return cells;
    }

    public int seek() {
        List<Integer> looks = looks(w);
        if (looks.isEmpty()) {
            return tell(Due.NONE);
        }
        w.looked[looks.get(0)] = true;
        return looks.get(0);
    }

    public int stop(int v) {
        if (!in(v, 1, 100)) {
            return beyond();
        }
        List<Integer> looks = looks(w);
        double all = 0;
        for (int c : looks) {
            all += w.odds[c];
        }
        double sum = 0;
        for (int i = 0; i < looks.size(); i++) {
            sum += w.odds[looks.get(i)];
            if (sum * 100 >= v * all) {
                return i + 1;
            }
        }
        return tell(Due.NONE);
    }

    public int check(int s) {
        if (!in(s, 0, 3)) {
            return beyond();
        }
        if (sheets[s] == null) {
            return tell(Due.MISSING);
        }
        W other = w.copy();
        for (int i = 0; i < sheets[s].length; i++) {
            if (go(other) != sheets[s][i]) {
                return i;
            }
        }
        return sheets[s].length;
    }

    public int sheet(int s, int bits, int n) {
        if (!in(s, 0, 3) || !Arrays.asList(0, 8, 16, 32).contains(bits)) {
            return beyond();
        }
        if (n < 0) {
            return tell(Due.SIZE);
        }
        if (n > 24) {
            return beyond();
        }
        this.bits[s] = bits;
        sheets[s] = bits == 0 ? null : new long[n];
        return bits == 0 ? 0 : n;
    }

    public int write(int s, int i, int v) {
        if (!in(s, 0, 3)) {
            return beyond();
        }
        if (sheets[s] == null) {
            return tell(Due.MISSING);
        }
        if (!in(i, 0, sheets[s].length - 1)) {
            return beyond();
        }
        sheets[s][i] = bits[s] == 8 ? (byte) v : bits[s] == 16 ? (short) v : v;
        return 1;
    }

    public int copy(int s, int from, int t, int to, int n) {
        if (!in(s, 0, 3) || !in(t, 0, 3)) {
            return beyond();
        }
        if (sheets[s] == null || sheets[t] == null) {
            return tell(Due.MISSING);
        }
        if (bits[s] != bits[t]) {
            return tell(Due.KIND);
        }
        if (from < 0 || to < 0 || n < 0 || (long) from + n > sheets[s].length || (long) to + n > sheets[t].length) {
            return beyond();
        }
        long[] were = sheets[s].clone();
        for (int i = 0; i < n; i++) {
            sheets[t][to + i] = were[from + i];
        }
        return n;
    }

    public int image() {
        kept = w.copy();
        return 1;
    }

    public int undo() {
        if (kept == null) {
            return tell(Due.NONE);
        }
        w = kept.copy();
        return w.hour;
    }

    public int tear() {
        int was = kept == null ? 0 : 1;
        kept = null;
        return was;
    }

    public int count(int what) {
        if (!in(what, 0, 12)) {
            return beyond();
        }
        int[] states = new int[5];
        for (A a : w.askings) {
            states[a.state]++;
        }
        int broken = (int) w.dishes.stream().filter(d -> d.broken).count();
        int blocks = w.craft.stream().mapToInt(c -> c.blocks.size()).sum();
        return new int[] {w.dishes.size(), broken, w.craft.size(), w.askings.size(), states[0], states[1], states[2],
            states[3], states[4], w.hour, tape.length(), blocks, looks(w).size()}[what];
    }

    public int status(int which) {
        if (!in(which, -1, 6)) {
            return beyond();
        }
        return which == -1 ? Arrays.stream(told).sum() : told[which];
    }
}
