/** The edges of DUE, MUST, COME, THE RUN, THE ROW, sentence by sentence. */
public final class QueueEdgesTest {
    private static final int BAD = -1, NONE = -4;
    private static final String ONE = "one plain 0 1 1 1;";

    private final Check check = new Check("QueueEdgesTest");

    public static void main(String[] args) {
        QueueEdgesTest test = new QueueEdgesTest();
        test.due();
        test.dueFarAbove();
        test.richAndProud();
        test.sons();
        test.sonsByLawOne();
        test.fathersOfKinds();
        test.stopsAtTheFirst();
        test.payersCoins();
        test.payersLaw();
        test.payersOneByOne();
        test.payersSons();
        test.counterFreedAndComing();
        test.sameMinute();
        test.twoCounters();
        test.places();
        test.sums();
        test.latestRun();
        test.poor();
        test.row();
        test.rowOfKinds();
        test.check.finish();
    }

    private void must(LetsIn x, int a, int b, int want) {
        check.due("must(" + a + ", " + b + ") by law " + x.rule(1), want, x.must(a, b));
    }

    private void waiting(LetsIn x, int t, int... want) {
        for (int i = 0; i < 7; i++) {
            check.due("row(" + t + ", " + i + ")", i < want.length ? want[i] : NONE, x.row(t, i));
        }
        for (int p = 0; p < x.rule(0); p++) {
            int place = NONE;
            for (int i = 0; i < want.length; i++) {
                place = want[i] == p ? i : place;
            }
            check.due("place(" + p + ", " + t + ")", place, x.place(p, t));
        }
    }

    private void served(LetsIn x, int... want) {
        for (int p = 0; p < want.length; p++) {
            check.due("served(" + p + ")", want[p], x.served(p));
            check.due("waits(" + p + ")", want[p] - x.one(p, 1), x.waits(p));
        }
    }

    private void due() {
        LetsIn x = Check.townOf(ONE + ONE);
        check.says("LAW 0: if DUE of a to b is above 0");
        must(x, 0, 1, 0);
        x.debt(0, 1, 1);
        must(x, 0, 1, 1);
        must(x, 1, 0, 0);
        x.debt(1, 0, 99);
        must(x, 0, 1, 1);
        must(x, 1, 0, 1);
        check.says("LAW 1: if it is more than DUE of b to a");
        x.law(1);
        must(x, 0, 1, 0);
        must(x, 1, 0, 1);
        for (int v = 0; v <= 99; v++) {
            LetsIn even = Check.townOf("law 1;" + ONE + ONE + "debt 0 1 50;");
            even.debt(1, 0, v);
            must(even, 0, 1, v < 50 ? 1 : 0);
            must(even, 1, 0, v > 50 ? 1 : 0);
        }
        x.debt(0, 1, 0);
        x.debt(1, 0, 0);
        must(x, 0, 1, 0);
        x.debt(0, 1, 1);
        must(x, 0, 1, 1);
    }

    private void dueFarAbove() {
        check.says("LAW 1, up to 999");
        LetsIn x = Check.townOf("law 1;" + ONE + ONE + ONE);
        for (int i = 0; i < 10; i++) {
            x.debt(0, 2, 99);
            x.sell(0, 2, 1);
            x.debt(1, 2, 99);
            x.sell(1, 2, 0);
        }
        must(x, 0, 1, 0);
        x.debt(0, 2, 9);
        check.due("999", 999, x.sell(0, 2, 1));
        must(x, 0, 1, 1);
        must(x, 1, 0, 0);
        x.debt(1, 2, 8);
        check.due("998", 998, x.sell(1, 2, 0));
        must(x, 0, 1, 1);
        x.debt(1, 2, 1);
        check.due("999", 999, x.sell(1, 2, 0));
        must(x, 0, 1, 0);
        must(x, 1, 0, 0);
    }

    private void richAndProud() {
        // 0 plain, 1 payer, 2 proud, 3 rich, 4 son of 0, 5 proud, 6 rich
        LetsIn x = Check.townOf(ONE + "one payer 0 1 1 50;one proud 0 1 1 1;one rich 0 1 1 1;one son 0 0 1 1 1;"
                + "one proud 0 1 1 1;one rich 0 1 1 1;");
        for (int round = 0; round < 4; round++) {
            x.law(round & 1);
            for (int a = 0; a < 7; a++) {
                for (int b = 0; b < 7; b++) {
                    if (a != b && (b == 3 || b == 6)) {
                        check.says("a MUST let in b, if b is rich");
                        must(x, a, b, 1);
                    } else if (a != b && (b == 2 || b == 5)) {
                        check.says("Nobody must let in a proud one");
                        must(x, a, b, 0);
                    } else if (a != b && round < 2) {
                        check.says("nobody OWES anything");
                        must(x, a, b, 0);
                    }
                }
            }
            for (int a = 0; a < 7 && round == 1; a++) {
                x.debt(a, 2, 9);
                x.debt(a, 5, 9);
                x.debt(3, a, 9);
            }
        }
        check.says("a rich one, a proud one MUST let in whom he OWES");
        x.law(0);
        x.debt(2, 0, 1);
        must(x, 3, 0, 1);
        must(x, 2, 0, 1);
        must(x, 6, 0, 0);
        must(x, 5, 0, 0);
    }

    private void sons() {
        // 0 is the father of 1, 1 of 2; 3 is another one
        LetsIn x = Check.townOf(ONE + "one son 0 0 1 1 1;one son 1 0 1 1 1;" + ONE);
        check.says("DUE of a son with what his FATHER OWES b");
        must(x, 1, 3, 0);
        x.debt(0, 3, 1);
        must(x, 1, 3, 1);
        check.says("not a FATHER's FATHER's");
        must(x, 2, 3, 0);
        x.debt(0, 3, 0);
        x.debt(1, 3, 1);
        must(x, 1, 3, 1);
        must(x, 2, 3, 1);
        check.says("a FATHER has not what his son OWES");
        must(x, 0, 3, 0);
        check.says("nothing, if b is his FATHER");
        must(x, 1, 0, 0);
        must(x, 2, 1, 0);
        x.debt(1, 0, 1);
        must(x, 1, 0, 1);
        must(x, 2, 0, 1);
        check.says("what is OWED to a FATHER is not OWED to his son");
        x.debt(3, 0, 9);
        must(x, 3, 1, 0);
        check.says("a FATHER who OWES his son");
        x.debt(0, 1, 1);
        must(x, 0, 1, 1);
        must(x, 2, 1, 0);
        // sons of each other
        LetsIn y = Check.townOf("one son 1 0 1 1 1;one son 0 0 1 1 1;" + ONE + "debt 0 2 5;");
        must(y, 0, 2, 1);
        must(y, 1, 2, 1);
        must(y, 0, 1, 0);
        must(y, 1, 0, 0);
        y.debt(0, 1, 1);
        must(y, 0, 1, 1);
        must(y, 1, 0, 0);
    }

    private void sonsByLawOne() {
        check.says("LAW 1: DUE of a son with what his FATHER OWES b, on either side");
        LetsIn x = Check.townOf("law 1;" + ONE + "one son 0 0 1 1 1;" + ONE + "debt 0 2 3;debt 1 2 2;");
        for (int v = 0; v <= 9; v++) {
            x.debt(2, 1, v);
            must(x, 1, 2, v < 5 ? 1 : 0);
            must(x, 2, 1, v > 5 ? 1 : 0);
        }
        // two sons, each against the other's father
        LetsIn y = Check.townOf("law 1;" + ONE + ONE + "one son 0 0 1 1 1;one son 1 0 1 1 1;debt 0 3 4;debt 1 2 4;");
        must(y, 2, 3, 0);
        must(y, 3, 2, 0);
        y.debt(2, 3, 1);
        must(y, 2, 3, 1);
        must(y, 3, 2, 0);
        y.debt(1, 2, 6);
        must(y, 2, 3, 0);
        must(y, 3, 2, 1);
        // a son against his father: what the father OWES himself is nothing
        LetsIn z = Check.townOf("law 1;" + ONE + "one son 0 0 1 1 1;debt 0 1 5;debt 1 0 5;");
        must(z, 0, 1, 0);
        must(z, 1, 0, 0);
        z.debt(1, 0, 6);
        must(z, 1, 0, 1);
    }

    private void fathersOfKinds() {
        check.says("his FATHER, another ONE, of whichever KIND");
        for (String kind : new String[] {"plain", "payer", "proud", "rich", "son 2"}) {
            LetsIn x = Check.townOf("one " + kind + " 9 1 1 50;one son 0 0 1 1 1;" + ONE + "debt 0 2 5;");
            must(x, 1, 2, 1);
            x.law(1);
            must(x, 1, 2, 1);
            x.debt(2, 1, 5);
            must(x, 1, 2, 0);
        }
    }

    private void stopsAtTheFirst() {
        check.says("as long as somebody is next ahead of him who MUST let him in, he goes ahead of that one");
        // 0 is at the counter; 4 comes behind 1, 2, 3
        String people = "one plain 0 9 1 1;one plain 1 1 1 1;one plain 2 1 1 1;one plain 3 1 1 1;one plain 4 1 1 1;";
        waiting(Check.townOf(people), 4, 1, 2, 3, 4);
        waiting(Check.townOf(people + "debt 1 4 9;debt 2 4 9;"), 4, 1, 2, 3, 4);
        waiting(Check.townOf(people + "debt 3 4 9;debt 1 4 9;"), 4, 1, 2, 4, 3);
        waiting(Check.townOf(people + "debt 3 4 9;debt 2 4 9;"), 4, 1, 4, 2, 3);
        waiting(Check.townOf(people + "debt 3 4 9;debt 2 4 9;debt 1 4 9;"), 4, 4, 1, 2, 3);
        check.says("who is at a COUNTER lets in nobody");
        LetsIn x = Check.townOf(people + "debt 3 4 9;debt 2 4 9;debt 1 4 9;debt 0 4 9;");
        waiting(x, 4, 4, 1, 2, 3);
        served(x, 0, 10, 11, 12, 9);
        check.says("he stands at the end: those who stand let in nobody but who COMES");
        waiting(Check.townOf(people + "debt 1 2 9;debt 2 1 9;"), 4, 2, 1, 3, 4);
        waiting(Check.townOf(people + "debt 3 2 9;debt 3 1 9;debt 4 3 9;"), 4, 1, 2, 3, 4);
    }

    private void payersCoins() {
        check.says("and has as many COINS, pays him all of that first");
        for (int coins = 5; coins <= 9; coins++) {
            LetsIn x = Check.townOf("one plain 0 9 1 1;one payer 1 1 1 " + coins + ";one plain 2 1 1 1;debt 1 2 7;");
            boolean pays = coins >= 7;
            waiting(x, 2, pays ? 1 : 2, pays ? 2 : 1);
            check.due("paid by one who has " + coins, pays ? 7 : 0, x.all(3));
            check.due("by itself", coins, x.one(1, 4));
            check.due("by itself", 7, x.owes(1, 2));
            check.due("by itself", 1, x.one(2, 4));
        }
        check.says("A payer who MUST let in one who is not rich");
        LetsIn rich = Check.townOf("one plain 0 9 1 1;one payer 1 1 1 50;one rich 2 1 1 1;debt 1 2 7;");
        waiting(rich, 2, 2, 1);
        check.due("paid", 0, rich.all(3));
        check.says("a payer who must not let him in pays nothing");
        LetsIn proud = Check.townOf("one plain 0 9 1 1;one payer 1 1 1 50;one proud 2 1 1 1;debt 1 2 7;");
        waiting(proud, 2, 1, 2);
        check.due("paid", 0, proud.all(3));
        check.says("who is no payer pays nothing");
        for (String kind : new String[] {"plain", "proud", "rich", "son 0"}) {
            LetsIn x = Check.townOf("one plain 0 9 1 1;one " + kind + " 1 1 1 50;one plain 2 1 1 1;debt 1 2 7;");
            waiting(x, 2, 2, 1);
            check.due("paid", 0, x.all(3));
        }
    }

    private void payersLaw() {
        check.says("LAW 1: who OWES no more than he is OWED need not pay; else he pays all of it");
        LetsIn x = Check.townOf("law 1;one plain 0 9 1 1;one payer 1 1 1 7;one plain 2 1 1 1;debt 1 2 7;debt 2 1 7;");
        waiting(x, 2, 1, 2);
        check.due("paid", 0, x.all(3));
        x.debt(2, 1, 6);
        waiting(x, 2, 1, 2);
        check.due("paid", 7, x.all(3));
        x.debt(1, 2, 8);
        waiting(x, 2, 2, 1);
        check.due("paid", 0, x.all(3));
        x.law(0);
        x.debt(1, 2, 7);
        x.debt(2, 1, 7);
        check.due("paid by law 0", 7, x.all(3));
    }

    private void payersOneByOne() {
        check.says("pays him all of that first, and is asked anew: what is paid is gone");
        // 1 has coins for 2 alone; then 3 goes ahead of 2, who owes him, and of 1
        LetsIn x = Check.townOf("one plain 0 9 1 1;one payer 1 1 1 9;one plain 2 1 1 0;one plain 3 1 1 0;"
                + "debt 1 2 5;debt 1 3 5;debt 2 3 1;");
        waiting(x, 2, 1, 2);
        waiting(x, 3, 3, 1, 2);
        check.due("paid", 5, x.all(3));
        LetsIn both = Check.townOf("one plain 0 9 1 1;one payer 1 1 1 10;one plain 2 1 1 0;one plain 3 1 1 0;"
                + "debt 1 2 5;debt 1 3 5;debt 2 3 1;");
        waiting(both, 3, 1, 3, 2);
        check.due("paid", 10, both.all(3));
        check.says("who is paid has those COINS");
        // 2 has none of his own, and pays 3 with what 1 paid him
        LetsIn on = Check.townOf("one plain 0 9 1 1;one payer 1 1 1 5;one payer 2 1 1 0;one plain 3 1 1 0;"
                + "debt 1 2 5;debt 2 3 5;");
        waiting(on, 3, 1, 2, 3);
        check.due("paid", 10, on.all(3));
        on.debt(2, 3, 6);
        waiting(on, 3, 1, 3, 2);
        check.due("paid", 5, on.all(3));
        check.says("two payers ahead of one: each pays");
        LetsIn two = Check.townOf("one plain 0 9 1 1;one plain 1 1 1 5;one payer 2 1 1 5;one plain 3 1 1 0;"
                + "debt 2 3 5;debt 1 3 5;");
        waiting(two, 3, 1, 2, 3);
        check.due("paid", 5, two.all(3));
        check.says("COINS above 50 count");
        LetsIn many = Check.townOf("one plain 0 9 1 50;one payer 1 1 1 50;one plain 2 1 1 1;debt 1 2 60;");
        waiting(many, 2, 2, 1);
        many.lend(0, 1, 10);
        waiting(many, 2, 1, 2);
        check.due("paid", 60, many.all(3));
    }

    private void payersSons() {
        check.says("a payer who OWES him something: not his FATHER, not his son");
        // 1 is the son of the payer 2; 3 comes when 1 stands alone, then when both do
        LetsIn x = Check.townOf("one plain 0 9 1 1;one son 2 1 1 1 50;one payer 9 1 1 50;one plain 3 1 1 1;debt 2 3 5;");
        waiting(x, 3, 3, 1);
        check.due("paid", 0, x.all(3));
        x.comes(2, 2);
        waiting(x, 3, 1, 2, 3);
        check.due("paid", 5, x.all(3));
        x.debt(1, 3, 1);
        waiting(x, 3, 1, 2, 3);
    }

    private void counterFreedAndComing() {
        check.says("COUNTERS are free; then those who COME in it COME; then each COUNTER takes the ONE at the front");
        // 2 comes in the MINUTE in which the counter is free again, and passes 1
        LetsIn x = Check.townOf("one plain 0 5 1 1;one plain 1 1 1 1;one plain 5 1 1 1;debt 1 2 1;");
        served(x, 0, 6, 5);
        waiting(x, 4, 1);
        waiting(x, 5, 1);
        x.comes(2, 6);
        served(x, 0, 5, 6);
        check.says("for as many MINUTES as he WANTS");
        for (int wants = 1; wants <= 9; wants++) {
            LetsIn y = Check.townOf("one plain 0 " + wants + " 1 1;one plain 0 1 1 1;");
            served(y, 0, wants);
            waiting(y, wants - 1, 1);
            waiting(y, wants);
            check.due("done", wants + 1, y.all(2));
        }
    }

    private void sameMinute() {
        check.says("those who COME in it, by numbers, COME");
        LetsIn x = Check.townOf("one plain 0 9 1 1;one plain 3 1 1 1;one plain 3 1 1 1;one plain 3 1 1 1;");
        waiting(x, 2);
        waiting(x, 3, 1, 2, 3);
        x.debt(3, 1, 1);
        waiting(x, 3, 1, 2, 3);
        x.debt(2, 3, 1);
        waiting(x, 3, 1, 3, 2);
        check.says("all in MINUTE 0: the first at the front is taken at once");
        LetsIn y = Check.townOf(ONE + ONE + "debt 0 1 1;");
        served(y, 1, 0);
        waiting(y, 0, 0);
        waiting(y, 1);
    }

    private void twoCounters() {
        check.says("each COUNTER that is free takes the ONE at the front");
        LetsIn x = Check.townOf("counters 2;one plain 0 4 1 1;one plain 0 4 1 1;one plain 1 1 1 1;one plain 1 1 1 1;"
                + "one plain 2 1 1 1;");
        served(x, 0, 0, 4, 4, 5);
        waiting(x, 0);
        waiting(x, 3, 2, 3, 4);
        waiting(x, 4, 4);
        waiting(x, 5);
        check.due("done", 6, x.all(2));
        check.due("waits", 3 + 3 + 3, x.all(0));
        x.counters(1);
        served(x, 0, 4, 8, 9, 10);
        x.counters(2);
        x.comes(1, 2);
        served(x, 0, 3, 1, 2, 4);
        check.says("a COUNTER that is free takes him as he comes");
        LetsIn y = Check.townOf("counters 2;one plain 0 9 1 1;one plain 5 9 1 1;one plain 6 1 1 1;");
        served(y, 0, 5, 9);
        waiting(y, 5);
        waiting(y, 8, 2);
        check.says("the last one is done, whoever he is");
        LetsIn z = Check.townOf("counters 2;one plain 0 9 1 1;one plain 0 1 1 1;one plain 0 1 1 1;");
        served(z, 0, 0, 1);
        check.due("done", 9, z.all(2));
        check.says("who is let in comes to the front, and is taken by the next COUNTER");
        LetsIn w = Check.townOf("counters 2;one plain 0 3 1 1;one plain 0 5 1 1;one plain 1 1 1 1;one rich 2 1 1 1;");
        served(w, 0, 0, 4, 3);
    }

    private void places() {
        check.says("PLACE of a ONE behind a MINUTE: from the front on, 0 the first (of those who wait)");
        for (int t = 0; t <= 130; t++) {
            LetsIn x = Check.townOf("one plain 2 3 1 1;one plain 2 1 1 1;one plain 60 1 1 1;");
            check.due("0 is taken as he comes", NONE, x.place(0, t));
            check.due("1 waits from 2 to 4, at " + t, t >= 2 && t < 5 ? 0 : NONE, x.place(1, t));
            check.due("2 is taken as he comes", NONE, x.place(2, t));
            check.due("row(" + t + ", 0)", t >= 2 && t < 5 ? 1 : NONE, x.row(t, 0));
            check.due("row(" + t + ", 1)", NONE, x.row(t, 1));
        }
    }

    private void sums() {
        check.says("all: 0 WAITS, summed, 1 each times COST, summed, 2 the last one is done, 3 what payers paid");
        LetsIn x = Check.townOf("one plain 3 9 9 1;one plain 3 1 0 1;one payer 4 2 9 9;one plain 5 1 1 0;debt 2 3 9;");
        served(x, 3, 12, 13, 15);
        int[] want = {9 + 9 + 10, 9 * 9 + 10, 16, 9};
        for (int what = 0; what < 4; what++) {
            check.due("all(" + what + ")", want[what], x.all(what));
        }
        check.says("0: there is nobody");
        for (int what = 0; what < 4; what++) {
            check.due("all(" + what + ") of nobody", 0, new LetsIn().all(what));
        }
        LetsIn one = Check.townOf("one plain 0 1 9 1;");
        check.due("one alone is done", 1, one.all(2));
        check.due("and waits not", 0, one.all(0));
    }

    private void latestRun() {
        check.says("MINUTE t (0 to 130): all seven come in MINUTE 60 and want 9 each");
        LetsIn x = Check.townOf("one plain 60 9 9 1;".repeat(7));
        served(x, 60, 69, 78, 87, 96, 105, 114);
        check.due("waits", 9 * 21, x.all(0));
        check.due("costs", 81 * 21, x.all(1));
        check.due("done", 123, x.all(2));
        waiting(x, 59);
        waiting(x, 60, 1, 2, 3, 4, 5, 6);
        waiting(x, 113, 6);
        waiting(x, 114);
        waiting(x, 130);
        x.counters(2);
        served(x, 60, 60, 69, 69, 78, 78, 87);
        check.due("done", 96, x.all(2));
        waiting(x, 86, 6);
        waiting(x, 87);
    }

    private void poor() {
        check.says("poor: those who have no more than v COINS (0 to 99)");
        // each waits another time: 0 not, 1 8, 2 8 and 1 of 2, ..
        LetsIn x = Check.townOf("one plain 0 9 1 50;one plain 1 1 1 0;one plain 2 2 1 1;one plain 3 4 1 50;");
        int[] waits = {0, 8, 8, 9};
        check.due("no coins", waits[1], x.poor(0, 0));
        check.due("1", waits[1] + waits[2], x.poor(1, 0));
        check.due("49", waits[1] + waits[2], x.poor(49, 0));
        check.due("50", 25, x.poor(50, 0));
        x.lend(0, 3, 49);
        check.due("3 has 99 now", 16, x.poor(98, 0));
        check.due("3 has 99 now", 25, x.poor(99, 0));
        x.lend(0, 3, 1);
        check.due("3 has 100 now", 16, x.poor(99, 0));
        check.due("nobody is there", 0, new LetsIn().poor(99, 1));
        check.says("were LAW so (0, 1)");
        LetsIn y = Check.townOf("one plain 0 9 1 50;one plain 1 1 1 0;one plain 2 2 1 1;debt 1 2 3;debt 2 1 3;");
        for (int law = 0; law < 2; law++) {
            y.law(law);
            check.due("law 0: 2 passes 1", 10, y.poor(0, 0));
            check.due("law 1: he does not", 8, y.poor(0, 1));
            check.due("the law stays", law, y.rule(1));
        }
    }

    private void stands(LetsIn x, int... want) {
        for (int i = 0; i < want.length; i++) {
            check.due("stands(" + i + ")", want[i], x.stands(i));
        }
        check.due("no such place", BAD, x.stands(want.length));
        check.due("no such place", BAD, x.stands(-1));
    }

    private void row() {
        check.says("THE ROW: all COME one behind another, by COMES, then by numbers");
        stands(Check.townOf("one plain 7 1 1 1;"), 0);
        stands(Check.townOf("one plain 7 1 1 1;one plain 7 1 1 1;one plain 6 1 1 1;"), 2, 0, 1);
        check.says("nobody is served");
        LetsIn x = Check.townOf("one plain 0 1 1 1;one plain 60 1 1 1;debt 0 1 1;");
        stands(x, 1, 0);
        served(x, 0, 60);
        check.says("nobody pays (payers are as plain ones)");
        LetsIn y = Check.townOf("one payer 0 1 1 50;one plain 1 1 1 1;debt 0 1 1;");
        stands(y, 1, 0);
        check.due("what he has stays", 50, y.one(0, 4));
        check.says("a payer who comes is let in as a plain one");
        stands(Check.townOf(ONE + "one payer 1 1 1 1;debt 0 1 1;"), 1, 0);
        check.says("by LAW");
        LetsIn z = Check.townOf(ONE + ONE + "debt 0 1 5;debt 1 0 5;");
        stands(z, 1, 0);
        z.law(1);
        stands(z, 0, 1);
    }

    private void rowOfKinds() {
        check.says("THE ROW: rich ones go ahead of all, of rich ones, too; nobody lets in a proud one");
        // 5 is a son of 0, who OWES 6
        String people = "one plain 0 1 1 1;one rich 1 1 1 1;one plain 2 1 1 1;one rich 3 1 1 1;one proud 4 1 1 1;"
                + "one son 0 5 1 1 1;one plain 6 1 1 1;debt 0 6 3;debt 2 4 9;";
        LetsIn x = Check.townOf(people);
        stands(x, 3, 1, 0, 2, 4, 6, 5);
        x.debt(4, 6, 1);
        stands(x, 3, 1, 0, 2, 6, 4, 5);
        x.debt(2, 6, 1);
        stands(x, 3, 1, 6, 0, 2, 4, 5);
        x.debt(1, 6, 1);
        stands(x, 3, 6, 1, 0, 2, 4, 5);
        check.says("LAW 1: a rich one all the same; a FATHER's DEBT against what the other OWES his son");
        x.law(1);
        stands(x, 3, 6, 1, 0, 2, 4, 5);
        x.debt(6, 5, 3);
        stands(x, 3, 1, 0, 2, 4, 5, 6);
        x.debt(5, 6, 1);
        stands(x, 3, 6, 1, 0, 2, 4, 5);
        check.says("in THE RUN, too, of those who wait");
        LetsIn y = Check.townOf("one plain 0 9 1 1;one rich 1 1 1 1;one plain 2 1 1 1;one rich 3 1 1 1;one proud 4 1 1 1;"
                + "one son 6 5 1 1 1;one plain 6 1 1 1;debt 2 4 9;debt 6 3 1;");
        waiting(y, 1, 1);
        waiting(y, 2, 1, 2);
        waiting(y, 3, 3, 1, 2);
        waiting(y, 4, 3, 1, 2, 4);
        waiting(y, 6, 3, 1, 2, 4, 5, 6);
        served(y, 0, 10, 11, 9, 12, 13, 14);
    }
}
