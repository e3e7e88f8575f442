import java.math.BigInteger;

/** The edges of what is SEEN and TOLD, of days and of IMAGES (promises 30 to 36), sentence by sentence. */
public final class SeenEdgesTest {
    private static final int BAD = -1, STATE = -2, NONE = -4;

    private final Check check = new Check("SeenEdgesTest");

    public static void main(String[] args) {
        SeenEdgesTest test = new SeenEdgesTest();
        test.seen();
        test.toldOfTwo();
        test.toldOfThree();
        test.toldWithLaterOnes();
        test.toldNeither();
        test.toldByWhatWasSeen();
        test.toldOfTheRow();
        test.judge();
        test.judgeJustThese();
        test.seedWraps();
        test.dayByItself();
        test.images();
        test.imagesAreApart();
        test.imagesOfMuch();
        test.check.finish();
    }

    /** Seven who come in the order of their numbers, one a MINUTE. */
    private static LetsIn seven() {
        StringBuilder text = new StringBuilder();
        for (int p = 0; p < 7; p++) {
            text.append("one plain ").append(p).append(" 1 1 9;");
        }
        return Check.townOf(text.toString());
    }

    private static LetsIn saw(int... ones) {
        LetsIn x = seven();
        see(x, ones);
        return x;
    }

    private static void see(LetsIn x, int... ones) {
        x.forget();
        for (int p : ones) {
            x.see(p);
        }
    }

    private void told(LetsIn x, int a, int b, int want) {
        check.due("told(" + a + ", " + b + ")", want, x.told(a, b));
    }

    private void seen() {
        check.says("see: one more ONE, behind those: how many are; STATE: he is SEEN");
        LetsIn x = seven();
        for (int p = 6; p >= 0; p--) {
            check.due("see", 7 - p, x.see(p));
            check.due("again", STATE, x.see(p));
            check.due("the first again", STATE, x.see(6));
            check.due("how many", 7 - p, x.count(2));
        }
        check.due("no such one", BAD, x.see(7));
        check.says("forget: nobody is SEEN: how many were");
        check.due("forget", 7, x.forget());
        check.due("forget", 0, x.forget());
        check.due("seen anew", 1, x.see(6));
        check.due("forget", 1, x.forget());
        told(x, 0, 6, NONE);
    }

    private void toldOfTwo() {
        check.says("a MUST let in b (b stood next behind him as he came, and went ahead), or must not (b stopped)");
        for (int a = 0; a < 7; a++) {
            for (int b = a + 1; b < 7; b++) {
                told(saw(a, b), a, b, 0);
                told(saw(b, a), a, b, 1);
                check.says("a who came first and b");
                told(saw(a, b), b, a, NONE);
                told(saw(b, a), b, a, NONE);
            }
        }
        check.says("came first: by COMES, then by numbers");
        LetsIn x = saw(0, 1);
        x.comes(0, 1);
        told(x, 0, 1, 0);
        told(x, 1, 0, NONE);
        x.comes(0, 2);
        told(x, 0, 1, NONE);
        told(x, 1, 0, 1);
    }

    private void toldOfThree() {
        check.says("b stood next behind him as he came, and went ahead: of each whom he went ahead of");
        LetsIn x = saw(2, 0, 1);
        told(x, 0, 1, 0);
        told(x, 0, 2, 1);
        told(x, 1, 2, 1);
        check.says("b stopped behind him; of those further ahead neither");
        LetsIn y = saw(0, 1, 2);
        told(y, 0, 1, 0);
        told(y, 1, 2, 0);
        told(y, 0, 2, NONE);
        LetsIn z = saw(0, 2, 1);
        told(z, 0, 1, 0);
        told(z, 0, 2, 0);
        told(z, 1, 2, 1);
        LetsIn w = saw(1, 2, 0);
        told(w, 0, 1, 1);
        told(w, 1, 2, 0);
        told(w, 0, 2, 1);
        LetsIn v = saw(1, 0, 2);
        told(v, 0, 1, 1);
        told(v, 0, 2, 0);
        told(v, 1, 2, NONE);
        LetsIn u = saw(2, 1, 0);
        told(u, 0, 1, 1);
        told(u, 0, 2, 1);
        told(u, 1, 2, 1);
    }

    private void toldWithLaterOnes() {
        check.says("b stopped behind him: who came later and stands between was not there yet");
        LetsIn x = saw(0, 5, 6, 4, 1);
        told(x, 0, 1, 0);
        told(x, 0, 4, 0);
        told(x, 1, 4, 1);
        told(x, 0, 5, 0);
        told(x, 4, 5, 1);
        told(x, 1, 5, 1);
        told(x, 0, 6, NONE);
        told(x, 5, 6, 0);
        told(x, 4, 6, 1);
        told(x, 1, 6, 1);
        LetsIn all = saw(0, 6, 5, 4, 3, 2, 1);
        for (int b = 1; b < 7; b++) {
            told(all, 0, b, 0);
            for (int a = 1; a < b; a++) {
                told(all, a, b, 1);
            }
        }
    }

    private void toldNeither() {
        check.says("or neither (one of them is not SEEN, too)");
        LetsIn x = seven();
        told(x, 0, 1, NONE);
        see(x, 0);
        told(x, 0, 1, NONE);
        told(x, 1, 0, NONE);
        see(x, 1);
        told(x, 0, 1, NONE);
        see(x, 0, 2);
        told(x, 0, 1, NONE);
        told(x, 1, 2, NONE);
        told(x, 3, 4, NONE);
        told(x, 0, 2, 0);
        check.says("BAD (also alike)");
        for (int p = 0; p < 7; p++) {
            told(x, p, p, BAD);
            told(x, p, 7, BAD);
            told(x, 7, p, BAD);
            told(x, p, -1, BAD);
            told(x, -1, p, BAD);
        }
    }

    private void toldByWhatWasSeen() {
        check.says("by what was SEEN, whatever they OWE and are");
        LetsIn x = Check.townOf("one rich 0 1 1 1;one proud 1 1 1 1;one plain 2 1 1 1;debt 1 2 9;");
        see(x, 1, 0);
        told(x, 0, 1, 1);
        check.due("yet nobody must", 0, x.must(0, 1));
        see(x, 1, 2);
        told(x, 1, 2, 0);
        check.due("yet he must", 1, x.must(1, 2));
        x.debt(1, 2, 0);
        x.law(1);
        told(x, 1, 2, 0);
    }

    private void toldOfTheRow() {
        check.says("what is TOLD by THE ROW itself is so");
        LetsIn x = Check.townOf("one plain 3 1 1 1;one son 0 2 1 1 1;one payer 2 1 1 50;one rich 4 1 1 1;one proud 1 1 1 1;"
                + "one plain 5 1 1 1;one plain 0 1 1 1;debt 1 0 3;debt 2 0 9;debt 0 5 1;debt 6 0 1;debt 4 5 1;debt 3 5 1;");
        for (int law = 0; law < 2; law++) {
            x.law(law);
            see(x, x.stands(0), x.stands(1), x.stands(2), x.stands(3), x.stands(4), x.stands(5), x.stands(6));
            check.due("all", 7, x.count(2));
            check.due("judge", NONE, x.judge());
            int known = 0;
            for (int a = 0; a < 7; a++) {
                for (int b = 0; b < 7; b++) {
                    if (a != b && x.told(a, b) != NONE) {
                        known++;
                        told(x, a, b, x.must(a, b));
                    }
                }
            }
            check.holds("each but the first tells of one at least: " + known, known >= 6);
        }
    }

    private void judge() {
        check.says("The first PLACE of SEEN where another one stands than in THE ROW of just these. NONE");
        check.due("nobody", NONE, seven().judge());
        check.due("one", NONE, saw(3).judge());
        check.due("two", NONE, saw(3, 4).judge());
        check.due("two", 0, saw(4, 3).judge());
        check.due("seven", NONE, saw(0, 1, 2, 3, 4, 5, 6).judge());
        for (int at = 0; at < 6; at++) {
            int[] ones = {0, 1, 2, 3, 4, 5, 6};
            ones[at] = at + 1;
            ones[at + 1] = at;
            check.due("two of seven", at, saw(ones).judge());
        }
        check.due("the last one at the front", 0, saw(6, 0, 1, 2, 3, 4, 5).judge());
        LetsIn x = seven();
        for (int a = 0; a < 6; a++) {
            x.debt(a, 6, 1);
        }
        see(x, 6, 0, 1, 2, 3, 4, 5);
        check.due("all owe him", NONE, x.judge());
        x.debt(0, 6, 0);
        check.due("the first one owes him nothing", 0, x.judge());
    }

    private void judgeJustThese() {
        check.says("THE ROW of just these");
        // 2 goes ahead of 1, and stops behind 0; without 1 he is behind 0 at once
        LetsIn x = seven();
        x.debt(1, 2, 1);
        x.debt(0, 2, 1);
        see(x, 2, 0, 1);
        check.due("three", NONE, x.judge());
        x.debt(1, 2, 0);
        check.due("1 owes him nothing", 0, x.judge());
        see(x, 2, 0);
        check.due("just these two", NONE, x.judge());
        x.debt(0, 2, 0);
        check.due("just these two", 0, x.judge());
        check.says("payers are as plain ones; a FATHER who is not SEEN counts");
        LetsIn y = Check.townOf("one payer 0 1 1 50;one plain 1 1 1 1;one son 0 2 1 1 1;one plain 3 1 1 1;debt 0 1 5;"
                + "debt 0 3 5;");
        see(y, 1, 0);
        check.due("a payer", NONE, y.judge());
        see(y, 0, 1);
        check.due("a payer", 0, y.judge());
        see(y, 3, 2);
        check.due("a son", NONE, y.judge());
    }

    private static int[] drawn(int seed, int people) {
        BigInteger value = BigInteger.valueOf(seed);
        int[] comes = new int[people];
        for (int p = 0; p < people; p++) {
            value = value.multiply(BigInteger.valueOf(1103515245)).add(BigInteger.valueOf(12345));
            value = value.mod(BigInteger.ONE.shiftLeft(32));
            comes[p] = value.shiftRight(16).mod(BigInteger.ONE.shiftLeft(15)).mod(BigInteger.valueOf(61)).intValue();
        }
        return comes;
    }

    private void seedWraps() {
        check.says("the seed becomes seed times 1103515245 and 12345; bits 16 to 30 of it modulo 61");
        int[] seeds = {0, 1, -1, 2, -2, 3, 1 << 15, 1 << 16, 1 << 30, 1 << 31, Integer.MAX_VALUE, Integer.MAX_VALUE - 1,
            Integer.MIN_VALUE + 1, 12345, -12345, 1103515245, -1103515245, 20261118};
        boolean last = false;
        for (int seed : seeds) {
            for (int people = 1; people <= 7; people++) {
                String text = "one payer 30 9 2 9;".repeat(people);
                LetsIn x = Check.townOf(text);
                LetsIn y = Check.townOf(text);
                for (int p = 0; p + 1 < people; p++) {
                    x.debt(p, p + 1, 5);
                    y.debt(p, p + 1, 5);
                }
                int[] comes = drawn(seed, people);
                for (int p = 0; p < people; p++) {
                    y.comes(p, comes[p]);
                    last = last || comes[p] == 60;
                }
                for (int what = 0; what < 4; what++) {
                    check.due("day(" + seed + ", " + what + ") of " + people, y.all(what), x.day(seed, what));
                }
            }
        }
        check.holds("MINUTE 60 was drawn", last);
        check.says("the first ONE by the seed's first step");
        LetsIn one = Check.townOf("one plain 30 1 1 1;");
        check.due("0 becomes 12345, bits 16 to 30 are 0", 0 + 1, one.day(0, 2));
        check.due("1 becomes 1103527590, bits 16 to 30 are 16838", 16838 % 61 + 1, one.day(1, 2));
        check.due("-1 becomes 3191464396 by wrap-around, bits 16 to 30 are 15929", 15929 % 61 + 1, one.day(-1, 2));
    }

    private void dayByItself() {
        check.says("day: by itself");
        LetsIn x = Check.townOf("counters 2;one plain 7 9 2 9;one payer 8 9 2 9;one plain 9 9 2 9;debt 1 2 5;");
        int[] before = {x.all(0), x.all(1), x.all(2), x.all(3)};
        for (int what = 0; what < 4; what++) {
            int day = x.day(99, what);
            check.due("the same seed, the same day", day, x.day(99, what));
            check.due("then", before[what], x.all(what));
        }
        for (int p = 0; p < 3; p++) {
            check.due("comes", 7 + p, x.one(p, 1));
            check.due("coins", 9, x.one(p, 4));
        }
        check.due("owes", 5, x.owes(1, 2));
        check.due("of nobody", 0, new LetsIn().day(99, 2));
    }

    private void images() {
        check.says("keep: whether there was one (1, 0); back: how many PEOPLE; STATE: there is none");
        for (int people = 0; people <= 7; people++) {
            LetsIn x = Check.townOf("one plain 1 1 1 1;".repeat(people));
            for (int k = 0; k < 2; k++) {
                check.due("back", STATE, x.back(k));
                check.due("keep", 0, x.keep(k));
                check.due("keep", 1, x.keep(k));
                check.due("back", people, x.back(k));
                check.due("back again", people, x.back(k));
                check.due("keep", 1, x.keep(k));
                check.due("images", k + 1, x.count(3));
            }
        }
    }

    private void imagesAreApart() {
        check.says("IMAGE k is PEOPLE, DEBTS, LAW, COUNTERS; all is as IMAGE k");
        LetsIn x = Check.townOf("one plain 1 1 1 9;one plain 2 2 2 9;debt 0 1 5;");
        x.keep(0);
        x.law(1);
        x.counters(2);
        x.comes(0, 60);
        x.pay(0, 1);
        x.debt(1, 0, 7);
        x.keep(1);
        x.law(0);
        x.counters(1);
        x.debt(1, 0, 0);
        x.see(1);
        x.sheet(0, 0, 4);
        Check.feed(x, "law");
        int[][] want = {{0, 1, 1, 9, 9, 5, 0}, {1, 2, 60, 4, 14, 0, 7}};
        for (int k : new int[] {1, 0, 0, 1, 0}) {
            check.due("back", 2, x.back(k));
            int[] got = {x.rule(1), x.rule(2), x.one(0, 1), x.one(0, 4), x.one(1, 4), x.owes(0, 1), x.owes(1, 0)};
            for (int i = 0; i < got.length; i++) {
                check.due("image " + k + ", number " + i, want[k][i], got[i]);
            }
            x.debt(0, 1, 88);
            x.law(1 - x.rule(1));
            x.comes(1, 3);
        }
        check.says("no SEEN, no SHEETS, no TAPE");
        check.due("seen", 1, x.count(2));
        check.due("cells", 4, x.count(5));
        check.due("tape", 3, x.count(4));
        check.says("keep again: the IMAGE is as all is now");
        x.debt(0, 1, 33);
        check.due("keep", 1, x.keep(1));
        x.debt(0, 1, 0);
        check.due("back", 2, x.back(1));
        check.due("owes", 33, x.owes(0, 1));
    }

    private void imagesOfMuch() {
        check.says("IMAGE k is PEOPLE, DEBTS: with all that they have and OWE, above 50 and 99, too");
        LetsIn x = Check.townOf("one plain 1 1 1 50;one son 0 2 2 2 50;one rich 60 9 9 50;");
        for (int i = 1; i <= 10; i++) {
            x.debt(0, 1, 99);
            check.due("sell", 99 * i, x.sell(0, 1, 2));
        }
        check.due("lend", 999, x.lend(2, 0, 9));
        check.due("lend", 50, x.lend(1, 0, 50));
        x.keep(0);
        check.due("pay", 50, x.pay(0, 1));
        check.due("sell", 0, x.sell(0, 2, 0));
        check.due("lend", 1, x.lend(0, 2, 1));
        x.comes(2, 0);
        check.due("back", 3, x.back(0));
        int[][] ones = {{0, 1, 1, 1, 109, NONE}, {4, 2, 2, 2, 0, 0}, {3, 60, 9, 9, 41, NONE}};
        for (int p = 0; p < 3; p++) {
            for (int what = 0; what < 6; what++) {
                check.due("one(" + p + ", " + what + ")", ones[p][what], x.one(p, what));
            }
        }
        check.due("owes", 999, x.owes(0, 2));
        check.due("owes", 50, x.owes(0, 1));
        check.due("owes", 0, x.owes(2, 0));
        check.due("debts", 2, x.count(0));
        check.due("summed", 1049, x.count(1));
    }
}
