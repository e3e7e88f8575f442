import java.util.Random;

/** Runs of calls drawn by seeds, each answered by LetsIn and by the Model; what they answer must be alike. */
public final class ModelTest {
    private static final int RUNS = 200;
    private static final int CALLS = 512;
    /** A text of 400 bytes is told by 54 calls. */
    private static final int MOST_AT_ONCE = 60;
    private static final String[] KINDS = {"plain", "payer", "proud", "rich", "son"};
    private static final String SIGNS = "abz019 ;{$~\n";
    private static final String[] WORDS =
            {"law", "counters", "one", "debt", "son", "plain", ";", " ", "7", "0", "100", "99", "poor", "oned"};

    private final Check check;
    private final Random random;
    private LetsIn x = new LetsIn();
    private Model m = new Model();
    private int people;
    private int calls;

    private ModelTest(Check check, long seed) {
        this.check = check;
        this.random = new Random(seed);
    }

    public static void main(String[] args) {
        Check check = new Check("ModelTest");
        for (int seed = 0; seed < RUNS && !check.failed(); seed++) {
            new ModelTest(check, seed).go(seed);
        }
        check.finish();
    }

    private void go(int seed) {
        while (calls < CALLS - MOST_AT_ONCE) {
            int what = random.nextInt(40);
            if (calls == 0 || what == 0) {
                tell(seed);
            } else {
                one(seed, what);
            }
        }
    }

    private int upTo(int most) {
        return random.nextInt(most + 1);
    }

    /** Mostly within the bounds, now and then next to them or far away. */
    private int around(int least, int most) {
        switch (random.nextInt(24)) {
            case 0: return least - 1;
            case 1: return most + 1;
            case 2: return random.nextInt();
            case 3: return random.nextBoolean() ? Integer.MIN_VALUE : Integer.MAX_VALUE;
            default: return least + random.nextInt(most - least + 1);
        }
    }

    private int somebody() {
        return around(0, Math.max(0, people - 1));
    }

    private String text() {
        StringBuilder text = new StringBuilder();
        people = random.nextInt(10) == 0 ? upTo(2) : 3 + upTo(4);
        int spread = random.nextInt(5) == 0 ? 60 : 4 + upTo(10);
        if (random.nextBoolean()) {
            text.append("law ").append(upTo(1)).append(";");
        }
        if (random.nextInt(3) == 0) {
            text.append("counters").append(1 + upTo(1)).append(" ; ");
        }
        for (int p = 0; p < people; p++) {
            int kind = people < 2 ? upTo(3) : random.nextInt(3) == 0 ? 0 : upTo(4);
            text.append("one ").append(KINDS[kind]);
            if (kind == 4) {
                text.append(' ').append((p + 1 + random.nextInt(people - 1)) % people);
            }
            text.append(' ').append(upTo(spread)).append(' ').append(1 + upTo(8)).append(' ').append(upTo(9));
            text.append(' ').append(upTo(50)).append(';');
        }
        int density = 2 + upTo(6);
        for (int a = 0; a < people; a++) {
            for (int b = 0; b < people; b++) {
                if (a != b && random.nextInt(density) == 0 && text.length() < 380) {
                    text.append("debt ").append(a).append(' ').append(b).append(' ').append(1 + upTo(30)).append(';');
                }
            }
        }
        return text.toString();
    }

    private String spoilt(String text) {
        StringBuilder spoilt = new StringBuilder(text);
        int at = upTo(text.length());
        switch (random.nextInt(5)) {
            case 0: spoilt.setLength(at); break;
            case 1: spoilt.insert(at, SIGNS.charAt(random.nextInt(SIGNS.length()))); break;
            case 2: spoilt.insert(at, WORDS[random.nextInt(WORDS.length)]); break;
            case 3: spoilt.append("debt ").append(upTo(7)).append(' ').append(upTo(7)).append(" 5;"); break;
            default: spoilt.replace(at, Math.min(at + 1, text.length()), "" + (char) upTo(255)); break;
        }
        return spoilt.toString();
    }

    private void tell(int seed) {
        String text = text();
        if (random.nextInt(3) == 0) {
            text = spoilt(text);
        }
        for (long eight : Check.eights(text)) {
            same(seed, "feed", 0, 0, m.feed(eight), x.feed(eight));
        }
        int length = Math.min(text.length(), 400);
        same(seed, "end", length, 0, m.end(length), x.end(length));
        same(seed, "town " + text, 0, 0, m.town(), x.town());
        same(seed, "fault " + text, 0, 0, m.fault(), x.fault());
        people = m.rule(0);
        same(seed, "rule", 0, 0, people, x.rule(0));
    }

    private void one(int seed, int what) {
        int p = somebody(), q = somebody(), w = around(0, 2);
        int t = random.nextInt(3) == 0 ? around(0, 130) : upTo(25);
        switch (what) {
            case 1: same(seed, "rule", w, 0, m.rule(w), x.rule(w)); break;
            case 2: w = around(0, 5); same(seed, "one", p, w, m.one(p, w), x.one(p, w)); break;
            case 3: same(seed, "owes", p, q, m.owes(p, q), x.owes(p, q)); break;
            case 4: same(seed, "must", p, q, m.must(p, q), x.must(p, q)); break;
            case 5: w = around(0, 1); same(seed, "law", w, 0, m.law(w), x.law(w)); break;
            case 6: w = around(1, 2); same(seed, "counters", w, 0, m.counters(w), x.counters(w)); break;
            case 7: w = around(0, 60); same(seed, "comes", p, w, m.comes(p, w), x.comes(p, w)); break;
            case 8: w = around(0, 99); same(seed, "debt", p, q, m.debt(p, q, w), x.debt(p, q, w)); break;
            case 9: same(seed, "pay", p, q, m.pay(p, q), x.pay(p, q)); break;
            case 10: w = around(1, 50); same(seed, "lend", p, q, m.lend(p, q, w), x.lend(p, q, w)); break;
            case 11: w = somebody(); same(seed, "sell", p, q, m.sell(p, q, w), x.sell(p, q, w)); break;
            case 12: same(seed, "served", p, 0, m.served(p), x.served(p)); break;
            case 13: same(seed, "waits", p, 0, m.waits(p), x.waits(p)); break;
            case 14: same(seed, "place", p, t, m.place(p, t), x.place(p, t)); break;
            case 15: w = around(0, 6); same(seed, "row", t, w, m.row(t, w), x.row(t, w)); break;
            case 16: w = around(0, 3); same(seed, "all", w, 0, m.all(w), x.all(w)); break;
            case 17: w = around(0, 99); q = around(0, 1); same(seed, "poor", w, q, m.poor(w, q), x.poor(w, q)); break;
            case 18: same(seed, "stands", p, 0, m.stands(p), x.stands(p)); break;
            case 19: w = place(); same(seed, "order", w, 0, m.order(w), x.order(w)); break;
            case 20: same(seed, "rings", 0, 0, m.rings(), x.rings()); break;
            case 21: w = place(); same(seed, "shop", w, 0, m.shop(w), x.shop(w)); break;
            case 22: w = around(0, 1); same(seed, "clear", p, t, m.clear(p, t, w), x.clear(p, t, w)); break;
            case 23: same(seed, "door", p, w, m.door(p, w), x.door(p, w)); break;
            case 24: same(seed, "buy", p, w, m.buy(p, w), x.buy(p, w)); break;
            case 25: case 26: case 27: same(seed, "see", p, 0, m.see(p), x.see(p)); break;
            case 28: same(seed, "told", p, q, m.told(p, q), x.told(p, q)); break;
            default: more(seed, what);
        }
    }

    private void more(int seed, int what) {
        int k = around(0, 3), i = around(0, 1), n;
        switch (what) {
            case 29: same(seed, "judge", 0, 0, m.judge(), x.judge()); break;
            case 30: if (upTo(4) == 0) { same(seed, "forget", 0, 0, m.forget(), x.forget()); } break;
            case 31: n = random.nextInt(); same(seed, "day", n, k, m.day(n, k), x.day(n, k)); break;
            case 32: same(seed, "keep", i, 0, m.keep(i), x.keep(i)); break;
            case 33: same(seed, "back", i, 0, m.back(i), x.back(i)); break;
            case 34: sheet(seed); break;
            case 35: lay(seed); break;
            case 36: read(seed); break;
            case 37: same(seed, "torn", 0, 0, m.torn(), x.torn()); break;
            default: n = around(0, 5); same(seed, "count", n, 0, m.count(n), x.count(n)); break;
        }
    }

    private int place() {
        return random.nextInt(3) == 0 ? 0 : around(10, 9 + Math.max(1, people));
    }

    private void sheet(int seed) {
        int k = around(0, 3), lane = around(0, 2), n = around(0, 40);
        same(seed, "sheet", k, lane, m.sheet(k, lane, n), x.sheet(k, lane, n));
        for (int i = 0; i < n && i < 40 && n <= 40 && upTo(3) > 0; i++) {
            int v = i % 3 == 2 ? upTo(99) : upTo(Math.max(0, people - 1));
            same(seed, "lay", k, i, m.lay(k, i, v), x.lay(k, i, v));
        }
    }

    private void lay(int seed) {
        int k = around(0, 3), i = around(0, 40), v = around(0, 99);
        same(seed, "lay", k, i, m.lay(k, i, v), x.lay(k, i, v));
    }

    private void read(int seed) {
        int k = around(0, 3), lane = around(0, 2), f = upTo(2) == 0 ? around(0, 40) : 0, n = upTo(1) == 0 ? 1 : around(0, 13);
        same(seed, "read", k, n, m.read(k, lane, f, n), x.read(k, lane, f, n));
        same(seed, "torn", 0, 0, m.torn(), x.torn());
        same(seed, "count", 1, 0, m.count(1), x.count(1));
    }

    private void same(int seed, String call, int a, int b, int want, int got) {
        calls++;
        check.due(seed + " " + call + "(" + a + ", " + b + ", ..)", want, got);
    }
}
