/** Promises 17 to 22 and 34: THE RUN, days. */
public final class RunTest {
    private final Check check = new Check("RunTest");

    public static void main(String[] args) {
        RunTest test = new RunTest();
        test.letIn();
        test.wrongNumbers();
        test.twoCounters();
        test.laterOnes();
        test.payer();
        test.payerWithoutCoins();
        test.payerAndRich();
        test.payersSon();
        test.ending();
        test.promise22();
        test.promise34();
        test.check.finish();
    }

    private void served(LetsIn x, int... want) {
        for (int p = 0; p < want.length; p++) {
            check.due("served " + p, want[p], x.served(p));
            check.due("waits " + p, want[p] - x.one(p, 1), x.waits(p));
        }
    }

    private void row(LetsIn x, int t, int... want) {
        for (int p = 0; p < x.rule(0); p++) {
            int place = -4;
            for (int i = 0; i < want.length; i++) {
                place = want[i] == p ? i : place;
            }
            check.due("place(" + p + ", " + t + ")", place, x.place(p, t));
        }
        for (int i = 0; i < 7; i++) {
            check.due("row(" + t + ", " + i + ")", i < want.length ? want[i] : -4, x.row(t, i));
        }
    }

    private void letIn() {
        // 0 is at the counter; 2 passes 1; 3 passes both, as long as both owe him
        LetsIn x = Check.townOf("one plain 0 4 1 9;one plain 1 3 2 0;one plain 2 2 3 0;one plain 2 1 4 0;"
                + "debt 1 2 5;debt 1 3 5;debt 2 3 1;debt 0 1 9;");
        served(x, 0, 7, 5, 4);
        row(x, 0);
        row(x, 1, 1);
        row(x, 2, 3, 2, 1);
        row(x, 3, 3, 2, 1);
        row(x, 4, 2, 1);
        row(x, 5, 1);
        row(x, 6, 1);
        row(x, 7);
        row(x, 130);
        check.due("waits", 6 + 3 + 2, x.all(0));
        check.due("costs", 12 + 9 + 8, x.all(1));
        check.due("done", 10, x.all(2));
        check.due("paid", 0, x.all(3));
        x.debt(2, 3, 0);
        row(x, 2, 2, 3, 1);
        check.due("by itself: debts stay", 5, x.owes(1, 3));
    }

    private void wrongNumbers() {
        LetsIn x = Check.townOf("one plain 0 4 1 9;one plain 1 3 2 0;");
        check.due("served", -1, x.served(2));
        check.due("served", -1, x.served(-1));
        check.due("waits", -1, x.waits(2));
        check.due("waits", -1, x.waits(-1));
        check.due("place", -1, x.place(2, 0));
        check.due("place", -1, x.place(0, -1));
        check.due("place", -1, x.place(0, 131));
        check.due("place", -4, x.place(0, 130));
        check.due("row", -1, x.row(-1, 0));
        check.due("row", -1, x.row(131, 0));
        check.due("row", -1, x.row(0, -1));
        check.due("row", -1, x.row(0, 7));
        check.due("row", -4, x.row(130, 6));
        check.due("all", -1, x.all(-1));
        check.due("all", -1, x.all(4));
        check.due("poor", -1, x.poor(-1, 0));
        check.due("poor", -1, x.poor(100, 0));
        check.due("poor", -1, x.poor(99, 2));
        check.due("poor", -1, x.poor(99, -1));
        check.due("day", -1, x.day(1, -1));
        check.due("day", -1, x.day(1, 4));
    }

    private void twoCounters() {
        LetsIn x = Check.townOf("counters 2;one plain 0 3 1 0;one plain 0 5 1 0;one plain 0 2 1 0;one plain 0 9 1 0;"
                + "one plain 5 1 1 0;");
        served(x, 0, 0, 3, 5, 5);
        row(x, 0, 2, 3);
        row(x, 3, 3);
        row(x, 5);
        check.due("done", 14, x.all(2));
        x.counters(1);
        served(x, 0, 3, 8, 10, 19);
    }

    private void laterOnes() {
        // who is at the counter lets in nobody; who has gone neither
        LetsIn x = Check.townOf("one plain 60 9 0 0;one plain 3 9 1 0;one plain 4 1 1 0;debt 1 2 9;debt 2 0 9;");
        served(x, 60, 3, 12);
        check.due("done", 69, x.all(2));
        check.due("costs", 8, x.all(1));
    }

    private void payer() {
        String people = "one plain 0 5 0 0;one payer 1 1 0 7;one plain 2 1 0 0;";
        LetsIn x = Check.townOf(people + "debt 1 2 7;");
        served(x, 0, 5, 6);
        check.due("paid", 7, x.all(3));
        check.due("by itself: he has them", 7, x.one(1, 4));
        check.due("by itself: he owes them", 7, x.owes(1, 2));
        check.due("asked again", 7, x.all(3));
        x.debt(2, 1, 7);
        check.due("law 0: he pays", 7, x.all(3));
        x.law(1);
        check.due("law 1: he must not, so pays not", 0, x.all(3));
        served(x, 0, 5, 6);
        x.debt(2, 1, 6);
        check.due("law 1: he must, and pays all", 7, x.all(3));

        // who was paid can pay with it
        LetsIn y = Check.townOf("one plain 0 5 0 0;one payer 1 1 0 7;one payer 2 1 0 0;one plain 3 1 0 0;"
                + "debt 1 2 7;debt 2 3 6;");
        check.due("paid on", 13, y.all(3));
        served(y, 0, 5, 6, 7);
    }

    private void payerWithoutCoins() {
        LetsIn x = Check.townOf("one plain 0 5 0 0;one payer 1 1 0 6;one plain 2 1 0 0;debt 1 2 7;");
        served(x, 0, 6, 5);
        check.due("paid", 0, x.all(3));
        // two whom he owes: coins for the first alone
        LetsIn y = Check.townOf("one plain 0 5 0 0;one payer 1 1 0 6;one plain 2 1 0 0;one plain 3 1 0 0;"
                + "debt 1 2 4;debt 1 3 4;debt 2 3 1;");
        check.due("paid", 4, y.all(3));
        served(y, 0, 6, 7, 5);
        row(y, 3, 3, 1, 2);
    }

    private void payerAndRich() {
        LetsIn x = Check.townOf("one plain 0 5 0 0;one payer 1 1 0 50;one rich 2 1 0 0;one proud 3 1 0 0;"
                + "debt 1 2 7;debt 1 3 7;debt 2 3 7;");
        served(x, 0, 6, 5, 7);
        check.due("he pays no rich one and no proud one", 0, x.all(3));
    }

    private void payersSon() {
        // 2 is a son of 1, who owes 3: 3 passes the son, but not the father, who pays
        String people = "one plain 0 9 0 0;one payer 3 1 0 9;one son 1 1 1 0 0;one plain 4 1 0 0;";
        LetsIn x = Check.townOf(people + "debt 1 3 5;");
        row(x, 4, 2, 1, 3);
        check.due("paid", 5, x.all(3));
        x.comes(2, 4);
        row(x, 4, 1, 3, 2);
        x.comes(1, 60);
        x.comes(2, 1);
        row(x, 4, 3, 2);
        x.comes(2, 5);
        row(x, 5, 3, 2);
        // law 1: as 2 comes, his father has paid 3, who owes 2 less than that
        LetsIn y = Check.townOf("law 1;" + people + "debt 1 3 5;debt 3 2 4;");
        y.comes(1, 1);
        y.comes(3, 2);
        y.comes(2, 3);
        row(y, 3, 1, 2, 3);
        y.debt(1, 3, 10);
        row(y, 3, 3, 1, 2);
    }

    private void ending() {
        StringBuilder text = new StringBuilder();
        for (int p = 0; p < 7; p++) {
            text.append("one plain 60 9 9 0;");
        }
        LetsIn x = Check.townOf(text.toString());
        served(x, 60, 69, 78, 87, 96, 105, 114);
        check.due("done", 123, x.all(2));
        check.due("waits", 189, x.all(0));
        check.due("costs", 1701, x.all(1));
        row(x, 60, 1, 2, 3, 4, 5, 6);
        row(x, 113, 6);
        row(x, 114);
        row(x, 59);
    }

    private void promise22() {
        // 2 passes 1 by law 0, and not by law 1
        LetsIn x = Check.townOf("one plain 0 5 0 50;one plain 1 2 0 10;one plain 2 3 0 11;debt 1 2 5;debt 2 1 5;");
        check.due("law 0, 1 alone", 7, x.poor(10, 0));
        check.due("law 1, 1 alone", 4, x.poor(10, 1));
        check.due("law 0, 1 and 2", 7 + 3, x.poor(11, 0));
        check.due("law 1, 1 and 2", 4 + 5, x.poor(11, 1));
        check.due("nobody so poor", 0, x.poor(9, 0));
        check.due("all", 10, x.poor(99, 0));
        check.due("the law stays", 0, x.rule(1));
        x.law(1);
        check.due("whatever the law", 7, x.poor(10, 0));
        // by the coins that they have, not by those behind the run
        LetsIn y = Check.townOf("one plain 0 5 0 50;one payer 1 2 0 10;one plain 2 3 0 0;debt 1 2 10;");
        check.due("1 has 10 and is not poor", 5, y.poor(0, 0));
        y.comes(0, 2);
        check.due("the first one, too", 1, y.poor(50, 0) - y.poor(49, 0));
    }

    private void promise34() {
        LetsIn x = Check.townOf("one plain 0 9 2 0;one plain 1 9 3 0;one plain 2 9 4 0;one plain 3 9 5 0;");
        for (int seed : new int[] {0, 1, -1, 5, 77, Integer.MIN_VALUE, Integer.MAX_VALUE, 123456789}) {
            int[] drawn = new int[4];
            int s = seed;
            for (int p = 0; p < 4; p++) {
                s = s * 1103515245 + 12345;
                drawn[p] = (s >> 16 & 32767) % 61;
            }
            LetsIn y = Check.townOf("one plain 0 9 2 0;one plain 1 9 3 0;one plain 2 9 4 0;one plain 3 9 5 0;");
            for (int p = 0; p < 4; p++) {
                y.comes(p, drawn[p]);
            }
            for (int what = 0; what < 4; what++) {
                check.due("day(" + seed + ", " + what + ")", y.all(what), x.day(seed, what));
            }
        }
        for (int p = 0; p < 4; p++) {
            check.due("by itself: comes stays", p, x.one(p, 1));
        }
        LetsIn one = Check.townOf("one plain 30 9 2 0;");
        check.due("0 becomes 12345: comes 0, done 9", 9, one.day(0, 2));
        LetsIn two = Check.townOf("one plain 30 9 2 0;one plain 30 9 2 0;");
        // 12345 * 1103515245 + 12345 modulo 2^32 is 3554416254; bits 16 to 30 are 21468; modulo 61: 57
        check.due("then 3554416254: comes 57, done 66", 66, two.day(0, 2));
    }
}
