/** What is asked of THE RUN, with two COUNTERS next to one: sums, poor ones, advice, days, by both LAWS. */
public final class TwoCountersTest {
    private static final int NONE = -4;
    /** 0 and 1 are at the COUNTERS until 5 and 6, if there are two; 2, 3 and 4 come one a MINUTE and wait. */
    private static final String PEOPLE = "one plain 0 5 0 0;one plain 0 6 0 0;one plain 1 4 2 9;one plain 2 2 1 9;"
            + "one plain 3 1 1 9;";

    private final Check check = new Check("TwoCountersTest");

    public static void main(String[] args) {
        TwoCountersTest test = new TwoCountersTest();
        test.sums();
        test.poor();
        test.clear();
        test.door();
        test.buy();
        test.payers();
        test.days();
        test.check.finish();
    }

    private static LetsIn town(int counters, String debts) {
        return Check.townOf("counters " + counters + ";" + PEOPLE + debts);
    }

    private void served(LetsIn x, int... want) {
        for (int p = 0; p < want.length; p++) {
            check.due("served(" + p + ") at " + x.rule(2), want[p], x.served(p));
            check.due("waits(" + p + ") at " + x.rule(2), want[p] - x.one(p, 1), x.waits(p));
        }
    }

    private void sums() {
        check.says("each COUNTER that is free takes the ONE at the front; all");
        LetsIn x = town(2, "");
        served(x, 0, 0, 5, 6, 8);
        int[] two = {13, 17, 9, 0};
        int[] one = {5 + 10 + 13 + 14, 20 + 13 + 14, 18, 0};
        for (int what = 0; what < 4; what++) {
            check.due("all(" + what + ") at two", two[what], x.all(what));
        }
        x.counters(1);
        served(x, 0, 5, 11, 15, 17);
        for (int what = 0; what < 4; what++) {
            check.due("all(" + what + ") at one", one[what], x.all(what));
        }
    }

    private void poor() {
        check.says("WAITS of those who have no more than v COINS, summed, were LAW so");
        LetsIn x = town(2, "debt 2 3 4;debt 3 2 4;");
        check.due("law 0: 3 passes 2", 5 + 3 + 4, x.poor(9, 0));
        check.due("law 1: he does not", 13, x.poor(9, 1));
        check.due("0 and 1 wait not", 0, x.poor(8, 0));
        x.counters(1);
        check.due("law 0 at one", 5 + 12 + 9 + 14, x.poor(9, 0));
        check.due("law 1 at one", 5 + 10 + 13 + 14, x.poor(9, 1));
        check.due("1 waits for 0", 5, x.poor(8, 1));
    }

    private void clear(LetsIn x, int t, int coins, int whom) {
        check.due("clear(2, " + t + ", 0)", coins, x.clear(2, t, 0));
        check.due("clear(2, " + t + ", 1)", whom, x.clear(2, t, 1));
    }

    private void clear() {
        check.says("clear: so as to be SERVED by MINUTE t");
        LetsIn x = town(2, "debt 2 3 4;debt 2 4 3;debt 3 4 1;");
        // 4, 3, 2: 4 is done as 1 is, so that 3 and 2 are taken both
        served(x, 0, 0, 6, 6, 5);
        clear(x, 6, 0, 0);
        clear(x, 5, 7, 8 + 16);
        clear(x, 4, NONE, NONE);
        x.counters(1);
        served(x, 0, 5, 14, 12, 11);
        clear(x, 14, 0, 0);
        clear(x, 13, 3, 16);
        clear(x, 12, 4, 8);
        clear(x, 11, 7, 8 + 16);
        clear(x, 10, NONE, NONE);
    }

    private void door(LetsIn x, int wait, int whom, int coins) {
        check.due("door(4, 0)", wait, x.door(4, 0));
        check.due("door(4, 1)", whom, x.door(4, 1));
        check.due("door(4, 2)", coins, x.door(4, 2));
    }

    private void door() {
        check.says("door: so as to WAIT least, less than now");
        LetsIn x = town(2, "");
        door(x, 3, 3, 1);
        x.debt(3, 4, 1);
        door(x, 2, 2, 1);
        x.debt(2, 4, 1);
        door(x, NONE, NONE, NONE);
        LetsIn one = town(1, "");
        door(one, 12, 3, 1);
        one.debt(3, 4, 1);
        door(one, 8, 2, 1);
        check.says("who is let in ahead of one who is taken in the same MINUTE does not WAIT less");
        LetsIn same = Check.townOf("counters 2;one plain 0 5 0 0;one plain 0 5 0 0;one plain 1 1 0 0;one plain 2 1 0 9;");
        check.due("waits", 3, same.waits(3));
        check.due("door", NONE, same.door(3, 0));
        same.counters(1);
        check.due("waits", 9, same.waits(3));
        check.due("door", 8, same.door(3, 0));
    }

    private void buy(LetsIn x, int wait, int which, int coins) {
        check.due("buy(4, 0)", wait, x.buy(4, 0));
        check.due("buy(4, 1)", which, x.buy(4, 1));
        check.due("buy(4, 2)", coins, x.buy(4, 2));
    }

    private void buy() {
        check.says("buy: so as to WAIT least, less than now");
        LetsIn x = town(2, "debt 3 2 5;");
        buy(x, 3, 32, 5);
        x.debt(2, 0, 3);
        buy(x, 3, 32, 5);
        x.debt(3, 4, 1);
        buy(x, 2, 20, 3);
        x.counters(1);
        buy(x, 8, 20, 3);
    }

    private void payers() {
        check.says("what payers paid");
        LetsIn x = Check.townOf("counters 2;one plain 0 5 0 0;one plain 0 6 0 0;one payer 1 4 2 9;one plain 2 2 1 9;"
                + "debt 2 3 9;debt 3 2 9;");
        served(x, 0, 0, 5, 6);
        check.due("paid by law 0", 9, x.all(3));
        check.due("poor by law 0", 4 + 4, x.poor(9, 0));
        x.law(1);
        check.due("paid by law 1", 0, x.all(3));
        x.debt(2, 3, 10);
        served(x, 0, 0, 6, 5);
        check.due("more than he has", 0, x.all(3));
    }

    /** A day is as a run in which all come when they are drawn to. */
    private void days() {
        check.says("COMES of all drawn by a seed: all(what) then");
        for (int law = 0; law < 2; law++) {
            for (int seed = -3; seed <= 3; seed++) {
                String text = "law " + law + ";counters 2;" + "one payer 30 9 2 9;".repeat(4) + "one rich 7 9 1 1;"
                        + "one son 0 7 9 3 1;debt 0 1 5;debt 1 0 5;debt 1 2 6;debt 2 3 9;debt 3 0 1;debt 0 2 9;";
                LetsIn x = Check.townOf(text);
                LetsIn y = Check.townOf(text);
                int drawn = seed;
                for (int p = 0; p < 6; p++) {
                    drawn = drawn * 1103515245 + 12345;
                    y.comes(p, (drawn >>> 16) % 32768 % 61);
                }
                for (int what = 0; what < 4; what++) {
                    check.due("day(" + seed + ", " + what + ")", y.all(what), x.day(seed, what));
                }
            }
        }
    }
}
