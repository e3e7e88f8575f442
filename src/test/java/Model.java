import java.nio.charset.StandardCharsets;
import java.util.ArrayList;
import java.util.Arrays;
import java.util.Comparator;
import java.util.List;

/**
 * The document once more, in the plainest and slowest way: MINUTE by MINUTE, every ORDER written out, real rows whose
 * faults the machine throws. LetsIn is compared with it.
 */
final class Model {
    private static final int BAD = -1, STATE = -2, FULL = -3, NONE = -4;
    private static final List<String> KINDS = List.of("plain", "payer", "proud", "rich", "son");

    private static final class One {
        int kind, comes, wants, cost, coins, father = NONE;

        One copy() {
            One o = new One();
            o.kind = kind;
            o.comes = comes;
            o.wants = wants;
            o.cost = cost;
            o.coins = coins;
            o.father = father;
            return o;
        }
    }

    private static final class State {
        final List<One> ones = new ArrayList<>();
        final int[][] owes = new int[7][7];
        int law;
        int counters = 1;

        State copy() {
            State s = new State();
            for (One o : ones) {
                s.ones.add(o.copy());
            }
            for (int a = 0; a < 7; a++) {
                s.owes[a] = owes[a].clone();
            }
            s.law = law;
            s.counters = counters;
            return s;
        }

        int due(int a, int b) {
            One o = ones.get(a);
            int due = owes[a][b];
            if (o.kind == 4 && o.father != b) {
                due += owes[o.father][b];
            }
            return due;
        }

        boolean must(int a, int b) {
            int kind = ones.get(b).kind;
            boolean byDebt = law == 0 ? due(a, b) > 0 : due(a, b) > due(b, a);
            return kind == 3 || kind != 2 && byDebt;
        }

        void move(int from, int to, int coins) {
            ones.get(from).coins -= coins;
            ones.get(to).coins += coins;
        }
    }

    private static final class Told extends Exception {
        private static final long serialVersionUID = 1L;
        final int fault;
        final int place;

        Told(int fault, int place) {
            this.fault = fault;
            this.place = place;
        }
    }

    private String tape = "";
    private State town = new State();
    private final State[] images = new State[2];
    private final List<Integer> seen = new ArrayList<>();
    private final Object[] sheets = new Object[4];
    private int fault;
    private int torn;

    // ---- the text

    int feed(long v) {
        if (tape.length() + 8 > 400) {
            return FULL;
        }
        byte[] bytes = new byte[8];
        for (int i = 7; i >= 0; i--) {
            bytes[i] = (byte) v;
            v >>= 8;
        }
        tape += new String(bytes, StandardCharsets.ISO_8859_1);
        return tape.length();
    }

    int end(int n) {
        if (n < 0 || n > tape.length()) {
            return BAD;
        }
        int had = tape.length();
        tape = tape.substring(0, n);
        return had;
    }

    private int at;
    private int start;

    private String token() throws Told {
        String left = tape.substring(at);
        String bare = left.replaceFirst("^ +", "");
        start = at + left.length() - bare.length();
        if (bare.isEmpty()) {
            return "";
        }
        for (String form : new String[] {"[a-z]+", "[0-9]+", ";"}) {
            String rest = bare.replaceFirst("^" + form, "");
            if (rest.length() < bare.length()) {
                String token = bare.substring(0, bare.length() - rest.length());
                if (form.equals("[0-9]+") && token.length() > 2) {
                    throw new Told(1, start);
                }
                at = start + token.length();
                return token;
            }
        }
        throw new Told(1, start);
    }

    private int number(int least, int most) throws Told {
        String token = token();
        if (!token.matches("[0-9]+")) {
            throw new Told(2, start);
        }
        int v = Integer.parseInt(token);
        if (v < least || v > most) {
            throw new Told(3, start);
        }
        return v;
    }

    private void stop() throws Told {
        if (!token().equals(";")) {
            throw new Told(2, start);
        }
    }

    private State parse(int[] lines) throws Told {
        State s = new State();
        boolean law = false, counters = false;
        int highest = -1;
        at = 0;
        for (String name = token(); !name.isEmpty(); name = token()) {
            switch (name) {
                case "law" -> {
                    if (law) {
                        throw new Told(4, start);
                    }
                    law = true;
                    s.law = number(0, 1);
                }
                case "counters" -> {
                    if (counters) {
                        throw new Told(4, start);
                    }
                    counters = true;
                    s.counters = number(1, 2);
                }
                case "one" -> {
                    if (s.ones.size() == 7) {
                        throw new Told(5, start);
                    }
                    One o = new One();
                    o.kind = KINDS.indexOf(token());
                    if (o.kind < 0) {
                        throw new Told(2, start);
                    }
                    if (o.kind == 4) {
                        o.father = number(0, 6);
                        if (o.father == s.ones.size()) {
                            throw new Told(4, start);
                        }
                        highest = Math.max(highest, o.father);
                    }
                    o.comes = number(0, 60);
                    o.wants = number(1, 9);
                    o.cost = number(0, 9);
                    o.coins = number(0, 50);
                    s.ones.add(o);
                }
                case "debt" -> {
                    int a = number(0, 6);
                    int b = number(0, 6);
                    if (a == b || s.owes[a][b] != 0) {
                        throw new Told(4, start);
                    }
                    s.owes[a][b] = number(1, 99);
                    highest = Math.max(highest, Math.max(a, b));
                }
                default -> throw new Told(2, start);
            }
            stop();
            lines[0]++;
        }
        if (highest >= s.ones.size()) {
            throw new Told(6, tape.length());
        }
        return s;
    }

    int town() {
        int[] lines = new int[1];
        try {
            town = parse(lines);
            fault = 0;
            seen.clear();
            Arrays.fill(images, null);
            return lines[0];
        } catch (Told t) {
            fault = t.fault;
            return -10 - t.place;
        } finally {
            tape = "";
        }
    }

    int fault() {
        return fault;
    }

    // ---- what there is, what is changed

    private boolean is(int p) {
        return p >= 0 && p < town.ones.size();
    }

    private boolean two(int a, int b) {
        return is(a) && is(b) && a != b;
    }

    int rule(int what) {
        return what < 0 || what > 2 ? BAD : new int[] {town.ones.size(), town.law, town.counters}[what];
    }

    int one(int p, int what) {
        if (!is(p) || what < 0 || what > 5) {
            return BAD;
        }
        One o = town.ones.get(p);
        return new int[] {o.kind, o.comes, o.wants, o.cost, o.coins, o.father}[what];
    }

    int owes(int a, int b) {
        return two(a, b) ? town.owes[a][b] : BAD;
    }

    int must(int a, int b) {
        return !two(a, b) ? BAD : town.must(a, b) ? 1 : 0;
    }

    int law(int v) {
        if (v != 0 && v != 1) {
            return BAD;
        }
        int was = town.law;
        town.law = v;
        return was;
    }

    int counters(int v) {
        if (v != 1 && v != 2) {
            return BAD;
        }
        int was = town.counters;
        town.counters = v;
        return was;
    }

    int comes(int p, int t) {
        if (!is(p) || t < 0 || t > 60) {
            return BAD;
        }
        int was = town.ones.get(p).comes;
        town.ones.get(p).comes = t;
        return was;
    }

    int debt(int a, int b, int v) {
        if (!two(a, b) || v < 0 || v > 99) {
            return BAD;
        }
        int was = town.owes[a][b];
        town.owes[a][b] = v;
        return was;
    }

    int pay(int a, int b) {
        if (!two(a, b)) {
            return BAD;
        }
        int owed = town.owes[a][b];
        if (owed == 0) {
            return NONE;
        }
        if (town.ones.get(a).coins < owed) {
            return STATE;
        }
        town.move(a, b, owed);
        town.owes[a][b] = 0;
        return owed;
    }

    int lend(int a, int b, int v) {
        if (!two(a, b) || v < 1 || v > 50) {
            return BAD;
        }
        if (town.ones.get(a).coins < v) {
            return STATE;
        }
        if (town.owes[b][a] + v > 999) {
            return FULL;
        }
        town.move(a, b, v);
        return town.owes[b][a] += v;
    }

    int sell(int a, int b, int c) {
        if (!two(a, b) || !is(c) || b == c) {
            return BAD;
        }
        if (town.owes[a][b] == 0) {
            return NONE;
        }
        if (c == a) {
            town.owes[a][b] = 0;
            return 0;
        }
        if (town.owes[a][b] + town.owes[a][c] > 999) {
            return FULL;
        }
        town.owes[a][c] += town.owes[a][b];
        town.owes[a][b] = 0;
        return town.owes[a][c];
    }

    // ---- the run

    private static final class Ran {
        final int[] served = new int[7];
        final int[] wait = new int[7];
        final List<List<Integer>> rows = new ArrayList<>();
        int waits, costs, done, paid;
    }

    private static void come(State s, List<Integer> queue, int p, Ran pays) {
        int at = queue.size();
        while (at > 0) {
            int ahead = queue.get(at - 1);
            if (!s.must(ahead, p)) {
                break;
            }
            int owed = s.owes[ahead][p];
            boolean payer = s.ones.get(ahead).kind == 1 && s.ones.get(p).kind != 3;
            if (pays != null && payer && owed > 0 && s.ones.get(ahead).coins >= owed) {
                s.move(ahead, p, owed);
                s.owes[ahead][p] = 0;
                pays.paid += owed;
                continue;
            }
            at--;
        }
        queue.add(at, p);
    }

    private static Ran run(State from) {
        State s = from.copy();
        Ran ran = new Ran();
        List<Integer> queue = new ArrayList<>();
        int[] minutesLeft = new int[s.counters];
        for (int t = 0; t <= 130; t++) {
            for (int c = 0; c < s.counters; c++) {
                minutesLeft[c] = Math.max(0, minutesLeft[c] - 1);
            }
            for (int p = 0; p < s.ones.size(); p++) {
                if (s.ones.get(p).comes == t) {
                    come(s, queue, p, ran);
                }
            }
            for (int c = 0; c < s.counters; c++) {
                if (minutesLeft[c] == 0 && !queue.isEmpty()) {
                    int p = queue.remove(0);
                    One o = s.ones.get(p);
                    minutesLeft[c] = o.wants;
                    ran.served[p] = t;
                    ran.wait[p] = t - o.comes;
                    ran.waits += t - o.comes;
                    ran.costs += (t - o.comes) * o.cost;
                    ran.done = Math.max(ran.done, t + o.wants);
                }
            }
            ran.rows.add(new ArrayList<>(queue));
        }
        return ran;
    }

    private static int sum(Ran ran, int what) {
        return new int[] {ran.waits, ran.costs, ran.done, ran.paid}[what];
    }

    int served(int p) {
        return is(p) ? run(town).served[p] : BAD;
    }

    int waits(int p) {
        return is(p) ? run(town).wait[p] : BAD;
    }

    int place(int p, int t) {
        if (!is(p) || t < 0 || t > 130) {
            return BAD;
        }
        int place = run(town).rows.get(t).indexOf(p);
        return place < 0 ? NONE : place;
    }

    int row(int t, int i) {
        if (t < 0 || t > 130 || i < 0 || i > 6) {
            return BAD;
        }
        List<Integer> row = run(town).rows.get(t);
        return i < row.size() ? row.get(i) : NONE;
    }

    int all(int what) {
        return what < 0 || what > 3 ? BAD : sum(run(town), what);
    }

    int poor(int v, int law) {
        if (v < 0 || v > 99 || law < 0 || law > 1) {
            return BAD;
        }
        State s = town.copy();
        s.law = law;
        Ran ran = run(s);
        int sum = 0;
        for (int p = 0; p < s.ones.size(); p++) {
            sum += town.ones.get(p).coins <= v ? ran.wait[p] : 0;
        }
        return sum;
    }

    // ---- the row, orders

    private List<Integer> rowOf(List<Integer> some) {
        List<Integer> byComing = new ArrayList<>(some);
        byComing.sort(Comparator.comparingInt((Integer p) -> town.ones.get(p).comes).thenComparingInt(p -> p));
        List<Integer> row = new ArrayList<>();
        for (int p : byComing) {
            come(town, row, p, null);
        }
        return row;
    }

    private List<Integer> everybody() {
        List<Integer> all = new ArrayList<>();
        for (int p = 0; p < town.ones.size(); p++) {
            all.add(p);
        }
        return all;
    }

    int stands(int i) {
        return is(i) ? rowOf(everybody()).get(i) : BAD;
    }

    private void orders(List<Integer> sofar, List<List<Integer>> found) {
        if (sofar.size() == town.ones.size()) {
            found.add(new ArrayList<>(sofar));
            return;
        }
        for (int p : everybody()) {
            boolean free = !sofar.contains(p);
            for (int ahead : sofar) {
                free = free && !town.must(ahead, p);
            }
            if (free) {
                sofar.add(p);
                orders(sofar, found);
                sofar.remove(sofar.size() - 1);
            }
        }
    }

    private List<List<Integer>> orders() {
        List<List<Integer>> found = new ArrayList<>();
        orders(new ArrayList<>(), found);
        return found;
    }

    int order(int what) {
        if (what != 0 && !(what >= 10 && is(what - 10))) {
            return BAD;
        }
        List<List<Integer>> found = orders();
        if (what == 0) {
            return found.size();
        }
        return found.isEmpty() ? NONE : found.get(0).get(what - 10);
    }

    private boolean leads(int from, int to, int steps) {
        for (int q : everybody()) {
            if (q != from && town.must(from, q) && (q == to || steps > 0 && leads(q, to, steps - 1))) {
                return true;
            }
        }
        return false;
    }

    int rings() {
        int bits = 0;
        for (int p : everybody()) {
            bits |= leads(p, p, 6) ? 1 << p : 0;
        }
        return bits;
    }

    int shop(int what) {
        if (what != 0 && !(what >= 10 && is(what - 10))) {
            return BAD;
        }
        List<Integer> best = null;
        int least = Integer.MAX_VALUE;
        for (List<Integer> order : orders()) {
            int cost = 0, minute = 0;
            for (int p : order) {
                cost += minute * town.ones.get(p).cost;
                minute += town.ones.get(p).wants;
            }
            if (cost < least) {
                least = cost;
                best = order;
            }
        }
        if (best == null) {
            return NONE;
        }
        return what == 0 ? least : best.get(what - 10);
    }

    // ---- what to do

    int clear(int p, int t, int what) {
        if (!is(p) || t < 0 || t > 130 || what < 0 || what > 1) {
            return BAD;
        }
        List<int[]> ways = new ArrayList<>();
        for (int set = 0; set < 1 << town.ones.size(); set++) {
            State s = town.copy();
            int price = 0;
            for (int b = 0; b < s.ones.size(); b++) {
                if ((set & 1 << b) != 0 && b != p) {
                    price += s.owes[p][b];
                    s.move(p, b, s.owes[p][b]);
                    s.owes[p][b] = 0;
                }
            }
            if ((set & 1 << p) == 0 && s.ones.get(p).coins >= 0 && run(s).served[p] <= t) {
                ways.add(new int[] {price, set});
            }
        }
        return best(ways, what);
    }

    /** Of ways, each a row of numbers, the first by these. */
    private static int best(List<int[]> ways, int what) {
        ways.sort(Arrays::compare);
        return ways.isEmpty() ? NONE : ways.get(0)[what];
    }

    int door(int p, int what) {
        if (!is(p) || what < 0 || what > 2) {
            return BAD;
        }
        List<int[]> ways = new ArrayList<>();
        int now = run(town).wait[p];
        for (int b = 0; b < town.ones.size(); b++) {
            for (int v = 1; v <= 50; v++) {
                if (b != p && v <= town.ones.get(p).coins && town.owes[b][p] + v <= 999) {
                    State s = town.copy();
                    s.move(p, b, v);
                    s.owes[b][p] += v;
                    int wait = run(s).wait[p];
                    if (wait < now) {
                        ways.add(new int[] {wait, v, b});
                    }
                }
            }
        }
        return best(ways, new int[] {0, 2, 1}[what]);
    }

    int buy(int p, int what) {
        if (!is(p) || what < 0 || what > 2) {
            return BAD;
        }
        List<int[]> ways = new ArrayList<>();
        int now = run(town).wait[p];
        for (int a : everybody()) {
            for (int b : everybody()) {
                int d = town.owes[a][b];
                if (a != p && b != p && d > 0 && d <= town.ones.get(p).coins && d + town.owes[a][p] <= 999) {
                    State s = town.copy();
                    s.move(p, b, d);
                    s.owes[a][p] += d;
                    s.owes[a][b] = 0;
                    int wait = run(s).wait[p];
                    if (wait < now) {
                        ways.add(new int[] {wait, d, 10 * a + b});
                    }
                }
            }
        }
        return best(ways, new int[] {0, 2, 1}[what]);
    }

    // ---- what a row tells

    int see(int p) {
        if (!is(p)) {
            return BAD;
        }
        if (seen.contains(p)) {
            return STATE;
        }
        seen.add(p);
        return seen.size();
    }

    int forget() {
        int were = seen.size();
        seen.clear();
        return were;
    }

    private boolean cameFirst(int a, int b) {
        int first = town.ones.get(a).comes, second = town.ones.get(b).comes;
        return first < second || first == second && a < b;
    }

    int told(int a, int b) {
        if (!two(a, b)) {
            return BAD;
        }
        if (!seen.contains(a) || !seen.contains(b) || !cameFirst(a, b)) {
            return NONE;
        }
        List<Integer> asHeCame = new ArrayList<>(seen);
        asHeCame.removeIf(q -> cameFirst(b, q));
        int of = asHeCame.indexOf(b);
        if (asHeCame.indexOf(a) > of) {
            return 1;
        }
        return asHeCame.get(of - 1) == a ? 0 : NONE;
    }

    int judge() {
        List<Integer> row = rowOf(seen);
        for (int i = 0; i < row.size(); i++) {
            if (!row.get(i).equals(seen.get(i))) {
                return i;
            }
        }
        return NONE;
    }

    int day(int seed, int what) {
        if (what < 0 || what > 3) {
            return BAD;
        }
        State s = town.copy();
        long x = seed;
        for (One o : s.ones) {
            x = (x * 1103515245L + 12345L) & 0xffffffffL;
            o.comes = (int) (x / 65536 % 32768 % 61);
        }
        return sum(run(s), what);
    }

    // ---- images, sheets

    int keep(int k) {
        if (k != 0 && k != 1) {
            return BAD;
        }
        int was = images[k] == null ? 0 : 1;
        images[k] = town.copy();
        return was;
    }

    int back(int k) {
        if (k != 0 && k != 1) {
            return BAD;
        }
        if (images[k] == null) {
            return STATE;
        }
        town = images[k].copy();
        return town.ones.size();
    }

    int sheet(int k, int lane, int n) {
        if (k < 0 || k > 3 || lane < 0 || lane > 2 || n > 40) {
            return BAD;
        }
        try {
            sheets[k] = lane == 0 ? new byte[n] : lane == 1 ? new short[n] : new int[n];
            return 1;
        } catch (NegativeArraySizeException e) {
            return -14;
        }
    }

    int lay(int k, int i, int v) {
        if (k < 0 || k > 3) {
            return BAD;
        }
        try {
            Object s = sheets[k];
            if (s instanceof byte[]) {
                ((byte[]) s)[i] = (byte) v;
            } else if (s instanceof short[]) {
                ((short[]) s)[i] = (short) v;
            } else {
                ((int[]) s)[i] = v;
            }
            return 1;
        } catch (NullPointerException e) {
            return -11;
        } catch (ArrayIndexOutOfBoundsException e) {
            return -12;
        }
    }

    int read(int k, int lane, int f, int n) {
        if (k < 0 || k > 3 || lane < 0 || lane > 2 || n < 0 || n > 13) {
            return BAD;
        }
        List<int[]> whole = new ArrayList<>();
        int found = 0;
        try {
            for (int i = 0; i < n; i++) {
                int[] three = new int[3];
                for (int j = 0; j < 3; j++) {
                    three[j] = cell(sheets[k], lane, f + 3 * i + j);
                }
                if (!two(three[0], three[1]) || three[2] < 0 || three[2] > 99) {
                    return -20 - i;
                }
                whole.add(three);
            }
        } catch (NullPointerException e) {
            found = 1;
        } catch (ArrayIndexOutOfBoundsException e) {
            found = 2;
        } catch (ClassCastException e) {
            found = 3;
        }
        for (int[] three : whole) {
            town.owes[three[0]][three[1]] = three[2];
        }
        torn = found;
        return whole.size();
    }

    /** The machine itself finds what is wrong with it. */
    private static int cell(Object sheet, int lane, int at) {
        switch (lane) {
            case 0: return ((byte[]) sheet)[at];
            case 1: return ((short[]) sheet)[at];
            default: return ((int[]) sheet)[at];
        }
    }

    int torn() {
        return torn;
    }

    int count(int what) {
        int above = 0, sum = 0;
        for (int[] row : town.owes) {
            for (int d : row) {
                above += d > 0 ? 1 : 0;
                sum += d;
            }
        }
        int kept = (images[0] == null ? 0 : 1) + (images[1] == null ? 0 : 1);
        int cells = sheets[0] == null ? NONE : java.lang.reflect.Array.getLength(sheets[0]);
        int[] all = {above, sum, seen.size(), kept, tape.length(), cells};
        return what < 0 || what > 5 ? BAD : all[what];
    }
}
