/**
 * Each argument of each call: its least and its greatest value are taken, the next one beyond each is BAD, and so is what
 * is far away. Every number is asked of a new object, so that no answer hangs on another.
 */
public final class BoundsTest {
    private static final int BAD = -1, STATE = -2, NONE = -4;
    /** Each OWES the one before him 5, so that there is an ORDER. */
    private static final String[] ONES = {"plain 0 3 1 50", "payer 1 2 2 50", "proud 2 1 3 50", "plain 3 9 4 50",
        "son 0 4 4 5 50", "payer 5 5 6 50", "plain 60 6 7 50"};

    private interface Call {
        int of(LetsIn x, int v);
    }

    private final Check check = new Check("BoundsTest");
    private int people;

    public static void main(String[] args) {
        BoundsTest test = new BoundsTest();
        for (int people = 0; people <= 7; people++) {
            test.people = people;
            test.ones();
            test.pairs();
            test.places();
        }
        test.people = 7;
        test.text();
        test.changes();
        test.minutes();
        test.whats();
        test.images();
        test.sheets();
        test.seeds();
        test.check.finish();
    }

    private LetsIn town() {
        StringBuilder text = new StringBuilder();
        for (int p = 0; p < people; p++) {
            text.append("one ").append(ONES[p]).append(';');
        }
        for (int p = 0; p + 1 < people; p++) {
            text.append("debt ").append(p + 1).append(' ').append(p).append(" 5;");
        }
        return Check.townOf(text.toString());
    }

    private void bad(String call, int v, Call of) {
        check.due(people + " people, " + call + " with " + v, BAD, of.of(town(), v));
    }

    private void taken(String call, int v, Call of) {
        int answer = of.of(town(), v);
        boolean refused = answer == BAD || answer <= -10;
        check.holds(people + " people, " + call + " with " + v + " answered " + answer, !refused);
    }

    /** All from the least one to the greatest one are taken, nothing else is; none is, if the greatest one is below. */
    private void bounds(String call, int least, int most, Call of) {
        for (int v = least; v <= most; v++) {
            taken(call, v, of);
        }
        bad(call, least - 1, of);
        bad(call, most + 1, of);
        bad(call, most + 2, of);
        bad(call, Integer.MIN_VALUE, of);
        bad(call, Integer.MAX_VALUE, of);
    }

    /** A ONE, where another one may not be he: all but that one. */
    private void another(String call, int not, Call of) {
        for (int v = 0; v < people; v++) {
            if (v == not) {
                bad(call, v, of);
            } else {
                taken(call, v, of);
            }
        }
        for (int v : new int[] {-1, -7, people, 7, 8, Integer.MIN_VALUE, Integer.MAX_VALUE}) {
            if (v < 0 || v >= people) {
                bad(call, v, of);
            }
        }
    }

    private void ones() {
        check.says("BAD: there is no such ONE");
        int last = people - 1;
        for (int what = 0; what <= 5; what++) {
            int of = what;
            bounds("one(., " + what + ")", 0, last, (x, p) -> x.one(p, of));
        }
        bounds("comes(., 0)", 0, last, (x, p) -> x.comes(p, 0));
        bounds("served", 0, last, (x, p) -> x.served(p));
        bounds("waits", 0, last, (x, p) -> x.waits(p));
        bounds("place(., 3)", 0, last, (x, p) -> x.place(p, 3));
        bounds("clear(., 130, 0)", 0, last, (x, p) -> x.clear(p, 130, 0));
        bounds("clear(., 0, 1)", 0, last, (x, p) -> x.clear(p, 0, 1));
        for (int what = 0; what <= 2; what++) {
            int of = what;
            bounds("door(., " + what + ")", 0, last, (x, p) -> x.door(p, of));
            bounds("buy(., " + what + ")", 0, last, (x, p) -> x.buy(p, of));
        }
        bounds("see", 0, last, (x, p) -> x.see(p));
    }

    private void pairs() {
        check.says("BAD (also alike)");
        for (int p = 0; p < people; p++) {
            int q = p;
            another("owes(" + p + ", .)", p, (x, v) -> x.owes(q, v));
            another("owes(., " + p + ")", p, (x, v) -> x.owes(v, q));
            another("must(" + p + ", .)", p, (x, v) -> x.must(q, v));
            another("must(., " + p + ")", p, (x, v) -> x.must(v, q));
            another("debt(" + p + ", ., 9)", p, (x, v) -> x.debt(q, v, 9));
            another("debt(., " + p + ", 9)", p, (x, v) -> x.debt(v, q, 9));
            another("pay(" + p + ", .)", p, (x, v) -> x.pay(q, v));
            another("pay(., " + p + ")", p, (x, v) -> x.pay(v, q));
            another("lend(" + p + ", ., 9)", p, (x, v) -> x.lend(q, v, 9));
            another("lend(., " + p + ", 9)", p, (x, v) -> x.lend(v, q, 9));
            another("told(" + p + ", .)", p, (x, v) -> x.told(q, v));
            another("told(., " + p + ")", p, (x, v) -> x.told(v, q));
            check.says("sell: BAD: b is a, or c");
            int r = (p + 1) % people;
            if (r != p) {
                another("sell(., b, c)", r, (x, v) -> x.sell(v, r, q));
                another("sell(a, b, .)", r, (x, v) -> x.sell(q, r, v));
                another("sell(a, ., a)", q, (x, v) -> x.sell(q, v, q));
                another("sell(., b, .)", r, (x, v) -> x.sell(v, r, v));
                bad("sell(a, ., .)", r, (x, v) -> x.sell(q, v, v));
                bad("sell(a, ., c)", r, (x, v) -> x.sell(q, v, r));
            }
        }
    }

    private void places() {
        check.says("BAD: there is no such PLACE");
        bounds("stands", 0, people - 1, (x, i) -> x.stands(i));
        bounds("order(10 and .)", 10, 9 + people, (x, i) -> x.order(i));
        bounds("shop(10 and .)", 10, 9 + people, (x, i) -> x.shop(i));
        bounds("row(0, .)", 0, 6, (x, i) -> x.row(0, i));
        for (int what = 1; what < 10; what++) {
            bad("order", what, (x, i) -> x.order(i));
            bad("shop", what, (x, i) -> x.shop(i));
        }
        taken("order", 0, (x, i) -> x.order(i));
        taken("shop", 0, (x, i) -> x.shop(i));
    }

    private void text() {
        check.says("end: THE TAPE keeps its first n bytes. BAD");
        bounds("end of 0", 0, 0, (x, n) -> x.end(n));
        bounds("end of 16", 0, 16, (x, n) -> {
            x.feed(0);
            x.feed(-1);
            return x.end(n);
        });
        bounds("end of 400", 0, 400, (x, n) -> {
            for (int i = 0; i < 50; i++) {
                x.feed(i);
            }
            return x.end(n);
        });
    }

    private void changes() {
        check.says("LAW (0, 1). COUNTERS (1, 2). COMES (0 to 60). debt: v (0 to 99). lend: v COINS (1 to 50)");
        bounds("law", 0, 1, (x, v) -> x.law(v));
        bounds("counters", 1, 2, (x, v) -> x.counters(v));
        bounds("comes", 0, 60, (x, t) -> x.comes(6, t));
        bounds("debt", 0, 99, (x, v) -> x.debt(0, 6, v));
        bounds("lend", 1, 50, (x, v) -> x.lend(0, 6, v));
    }

    private void minutes() {
        check.says("MINUTE t (0 to 130)");
        bounds("place", 0, 130, (x, t) -> x.place(6, t));
        bounds("row", 0, 130, (x, t) -> x.row(t, 0));
        bounds("row", 0, 130, (x, t) -> x.row(t, 6));
        bounds("clear", 0, 130, (x, t) -> x.clear(6, t, 0));
        bounds("clear", 0, 130, (x, t) -> x.clear(0, t, 1));
        check.says("poor: v COINS (0 to 99), were LAW so (0, 1)");
        bounds("poor", 0, 99, (x, v) -> x.poor(v, 0));
        bounds("poor", 0, 99, (x, v) -> x.poor(v, 1));
        bounds("poor's law", 0, 1, (x, v) -> x.poor(0, v));
        bounds("poor's law", 0, 1, (x, v) -> x.poor(99, v));
    }

    private void whats() {
        check.says("what: BAD");
        bounds("rule", 0, 2, (x, what) -> x.rule(what));
        bounds("one", 0, 5, (x, what) -> x.one(0, what));
        bounds("one", 0, 5, (x, what) -> x.one(6, what));
        bounds("all", 0, 3, (x, what) -> x.all(what));
        bounds("day", 0, 3, (x, what) -> x.day(5, what));
        bounds("clear", 0, 1, (x, what) -> x.clear(6, 130, what));
        bounds("clear that can not be", 0, 1, (x, what) -> x.clear(6, 0, what));
        bounds("door", 0, 2, (x, what) -> x.door(4, what));
        bounds("buy", 0, 2, (x, what) -> x.buy(4, what));
        bounds("count", 0, 5, (x, what) -> x.count(what));
    }

    private void images() {
        check.says("IMAGE k (0, 1)");
        bounds("keep", 0, 1, (x, k) -> x.keep(k));
        bounds("back without one", 0, 1, (x, k) -> x.back(k));
        bounds("back", 0, 1, (x, k) -> {
            x.keep(0);
            x.keep(1);
            return x.back(k);
        });
        for (int k = 0; k < 2; k++) {
            LetsIn x = town();
            check.due("back without one", STATE, x.back(k));
            check.due("keep", 0, x.keep(k));
            check.due("back", 7, x.back(k));
            check.due("keep", 1, x.keep(k));
            check.due("the other one is none", STATE, x.back(1 - k));
        }
    }

    private void sheets() {
        check.says("SHEETS 0 to 3; BYTES (lane 0), SHORTS (1), INTS (2)");
        bounds("sheet's k", 0, 3, (x, k) -> x.sheet(k, 0, 40));
        bounds("sheet's lane", 0, 2, (x, lane) -> x.sheet(0, lane, 40));
        bounds("lay's k", 0, 3, (x, k) -> {
            x.sheet(k, 0, 1);
            return x.lay(k, 0, 1);
        });
        bounds("read's k", 0, 3, (x, k) -> x.read(k, 0, 0, 1));
        bounds("read's lane", 0, 2, (x, lane) -> x.read(0, lane, 0, 1));
        bounds("read's lane, no debts", 0, 2, (x, lane) -> x.read(0, lane, 0, 0));
        bounds("read's n", 0, 13, (x, n) -> x.read(0, 0, 0, n));
        check.says("with 0 to 40 CELLS; BAD: also n above 40; -10 - 4");
        for (int n = 0; n <= 40; n++) {
            LetsIn x = new LetsIn();
            check.due("sheet of " + n, 1, x.sheet(0, n % 3, n));
            check.due("its cells", n, x.count(5));
            check.due("behind its cells", -12, x.lay(0, n, 1));
            check.due("its last cell", n == 0 ? -12 : 1, x.lay(0, n - 1, 1));
            check.due("ahead of its cells", -12, x.lay(0, -1, 1));
        }
        for (int n : new int[] {41, 42, Integer.MAX_VALUE}) {
            bad("sheet's n", n, (x, v) -> x.sheet(0, 2, v));
        }
        for (int n : new int[] {-1, -2, -40, Integer.MIN_VALUE}) {
            check.due("sheet of " + n, -14, new LetsIn().sheet(0, 2, n));
        }
    }

    private void seeds() {
        check.says("day: by a seed, whichever it is");
        for (int seed : new int[] {Integer.MIN_VALUE, -1, 0, 1, Integer.MAX_VALUE}) {
            taken("day", seed, (x, v) -> x.day(v, 0));
        }
        check.says("feed: eight bytes, whichever they are");
        for (long v : new long[] {Long.MIN_VALUE, -1, 0, 1, Long.MAX_VALUE}) {
            check.due("feed " + v, 8, new LetsIn().feed(v));
        }
        check.says("NONE: there is none");
        check.due("no son", NONE, town().one(0, 5));
        check.due("a sheet that is nothing", NONE, town().count(5));
    }
}
