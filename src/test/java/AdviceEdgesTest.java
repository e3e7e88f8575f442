/** The edges of clear, door and buy (promises 27 to 29), sentence by sentence. */
public final class AdviceEdgesTest {
    private static final int NONE = -4;

    private final Check check = new Check("AdviceEdgesTest");

    public static void main(String[] args) {
        AdviceEdgesTest test = new AdviceEdgesTest();
        test.clearByMinutes();
        test.clearLeastSet();
        test.clearCoins();
        test.clearWithoutNeed();
        test.clearThatCanNotBe();
        test.clearByLaw();
        test.doorLess();
        test.doorLeast();
        test.doorFewest();
        test.doorBounds();
        test.doorFull();
        test.buyLess();
        test.buyLeast();
        test.buyFewest();
        test.buyCoins();
        test.buyWhose();
        test.buyFull();
        test.check.finish();
    }

    private void clear(LetsIn x, int p, int t, int coins, int whom) {
        check.due("clear(" + p + ", " + t + ", 0)", coins, x.clear(p, t, 0));
        check.due("clear(" + p + ", " + t + ", 1)", whom, x.clear(p, t, 1));
    }

    private void noClear(LetsIn x, int p, int t) {
        clear(x, p, t, NONE, NONE);
    }

    private void door(LetsIn x, int p, int wait, int whom, int coins) {
        check.due("door(" + p + ", 0)", wait, x.door(p, 0));
        check.due("door(" + p + ", 1)", whom, x.door(p, 1));
        check.due("door(" + p + ", 2)", coins, x.door(p, 2));
    }

    private void noDoor(LetsIn x, int p) {
        door(x, p, NONE, NONE, NONE);
    }

    private void buy(LetsIn x, int p, int wait, int which, int coins) {
        check.due("buy(" + p + ", 0)", wait, x.buy(p, 0));
        check.due("buy(" + p + ", 1)", which, x.buy(p, 1));
        check.due("buy(" + p + ", 2)", coins, x.buy(p, 2));
    }

    private void noBuy(LetsIn x, int p) {
        buy(x, p, NONE, NONE, NONE);
    }

    /**
     * 4 is at the counter until 9; 0 OWES 1, 2 and 3, who come behind him, and each later one goes ahead of each earlier
     * one: who is paid off stands behind 0. They want 1, 1 and 2 MINUTES.
     */
    private static LetsIn owing(int coins) {
        return Check.townOf("one plain 1 1 0 " + coins + ";one plain 2 1 0 0;one plain 3 1 0 0;one plain 4 2 0 0;"
                + "one plain 0 9 0 0;debt 1 2 1;debt 1 3 1;debt 2 3 1;debt 0 1 2;debt 0 2 2;debt 0 3 4;");
    }

    private void clearByMinutes() {
        LetsIn x = owing(50);
        check.says("so as to be SERVED by MINUTE t: the fewest COINS, whom (bits, of several sets the least)");
        clear(x, 0, 130, 0, 0);
        clear(x, 0, 13, 0, 0);
        clear(x, 0, 12, 2, 2);
        clear(x, 0, 11, 4, 2 + 4);
        clear(x, 0, 10, 6, 2 + 8);
        clear(x, 0, 9, 8, 2 + 4 + 8);
        noClear(x, 0, 8);
        noClear(x, 0, 0);
        check.says("by itself");
        check.due("served", 13, x.served(0));
        check.due("coins", 50, x.one(0, 4));
        check.due("owes", 4, x.owes(0, 3));
    }

    private void clearLeastSet() {
        check.says("the fewest COINS ahead of the least set");
        LetsIn x = owing(50);
        x.debt(0, 1, 3);
        clear(x, 0, 12, 2, 4);
        x.debt(0, 2, 4);
        clear(x, 0, 12, 3, 2);
        x.debt(0, 3, 2);
        clear(x, 0, 12, 2, 8);
        clear(x, 0, 11, 2, 8);
        check.says("of several sets the least: one alone, who is 0, ahead of two");
        // as owing, the numbers the other way round: 3 OWES 0, who comes last, and 1 and 2
        LetsIn y = Check.townOf("one plain 4 2 0 0;one plain 2 1 0 0;one plain 3 1 0 0;one plain 1 1 0 50;"
                + "one plain 0 9 0 0;debt 1 2 1;debt 1 0 1;debt 2 0 1;debt 3 1 2;debt 3 2 2;debt 3 0 4;");
        check.due("served", 13, y.served(3));
        clear(y, 3, 11, 4, 1);
        y.debt(3, 0, 5);
        clear(y, 3, 11, 4, 2 + 4);
    }

    private void clearCoins() {
        check.says("he pays what he has, all that he OWES each");
        for (int coins = 0; coins <= 9; coins++) {
            LetsIn x = owing(coins);
            clear(x, 0, 9, coins >= 8 ? 8 : NONE, coins >= 8 ? 14 : NONE);
            clear(x, 0, 10, coins >= 6 ? 6 : NONE, coins >= 6 ? 10 : NONE);
            clear(x, 0, 11, coins >= 4 ? 4 : NONE, coins >= 4 ? 6 : NONE);
            clear(x, 0, 12, coins >= 2 ? 2 : NONE, coins >= 2 ? 2 : NONE);
            clear(x, 0, 13, 0, 0);
        }
    }

    private void clearWithoutNeed() {
        check.says("who is SERVED by then pays nobody");
        LetsIn x = Check.townOf("one plain 5 1 0 50;one plain 0 1 0 0;debt 0 1 9;");
        clear(x, 0, 5, 0, 0);
        noClear(x, 0, 4);
        clear(x, 1, 0, 0, 0);
        check.says("nobody is paid off in vain: proud ones, ONES who come later, ONES whom he OWES nothing");
        LetsIn y = Check.townOf("one plain 0 9 0 0;one plain 1 1 0 50;one proud 2 1 0 0;one plain 3 1 0 0;"
                + "one plain 60 1 0 0;debt 1 2 1;debt 1 4 1;");
        clear(y, 1, 9, 0, 0);
        y.debt(1, 3, 1);
        clear(y, 1, 9, 0, 0);
        y.debt(2, 3, 1);
        clear(y, 1, 10, 0, 0);
        clear(y, 1, 9, 1, 8);
    }

    private void clearThatCanNotBe() {
        check.says("NONE: it can not be");
        LetsIn rich = Check.townOf("one plain 0 9 0 0;one plain 1 1 0 50;one rich 2 1 0 0;debt 1 2 5;");
        noClear(rich, 1, 9);
        clear(rich, 1, 10, 0, 0);
        LetsIn son = Check.townOf("one plain 0 9 0 0;one son 3 1 1 0 50;one plain 2 1 0 0;one plain 60 1 0 50;debt 3 2 5;");
        noClear(son, 1, 9);
        son.debt(1, 2, 5);
        noClear(son, 1, 9);
        son.debt(3, 2, 0);
        clear(son, 1, 9, 5, 4);
        LetsIn late = Check.townOf("one plain 60 9 0 0;");
        clear(late, 0, 60, 0, 0);
        noClear(late, 0, 59);
    }

    private void clearByLaw() {
        check.says("all that he OWES each");
        LetsIn x = Check.townOf("law 1;one plain 0 9 0 0;one plain 1 1 0 5;one plain 2 1 0 0;debt 1 2 5;debt 2 1 4;");
        clear(x, 1, 9, 5, 4);
        x.debt(1, 2, 6);
        noClear(x, 1, 9);
        x.debt(2, 1, 6);
        clear(x, 1, 9, 0, 0);
    }

    /** 0 is at the counter until 9; 1 and 2 stand ahead of 3, who comes last. */
    private static LetsIn standing(String law) {
        return Check.townOf(law + "one plain 0 9 0 0;one plain 1 4 0 0;one plain 2 2 0 0;one plain 3 1 0 50;"
                + "one plain 60 1 0 0;");
    }

    private void doorLess() {
        check.says("so as to WAIT least, less than now: his WAIT then, whom, how many COINS");
        LetsIn x = standing("");
        check.due("now", 12, x.waits(3));
        door(x, 3, 10, 2, 1);
        x.debt(2, 3, 1);
        check.due("now", 10, x.waits(3));
        door(x, 3, 6, 1, 1);
        x.debt(1, 3, 1);
        check.due("now", 6, x.waits(3));
        check.says("NONE: nobody");
        noDoor(x, 3);
        noDoor(x, 0);
        check.says("who waits not can not wait less");
        noDoor(Check.townOf("one plain 5 1 0 50;"), 0);
        noDoor(Check.townOf("one plain 0 1 0 50;one plain 1 1 0 50;"), 1);
        check.says("by itself");
        check.due("coins", 50, x.one(3, 4));
        check.due("owes", 1, x.owes(2, 3));
        check.says("from one MINUTE to none");
        door(Check.townOf("one plain 0 1 0 0;one plain 0 1 0 1;"), 1, 0, 0, 1);
    }

    private void doorLeast() {
        check.says("to WAIT least, ahead of the fewest COINS");
        // 4 is the father of 1 and 2; by law 1 one coin makes 2 let him in, four make 1, too
        LetsIn x = Check.townOf("law 1;one plain 0 9 0 0;one son 4 1 4 0 0;one son 4 2 2 0 0;one plain 3 1 0 50;"
                + "one plain 60 1 0 0;debt 3 1 3;");
        door(x, 3, 6, 4, 4);
        x.lend(3, 0, 46);
        check.due("he has four", 4, x.one(3, 4));
        door(x, 3, 6, 4, 4);
        x.lend(3, 0, 1);
        door(x, 3, 10, 2, 1);
        x.lend(3, 0, 3);
        noDoor(x, 3);
    }

    private void doorFewest() {
        check.says("the fewest");
        LetsIn x = standing("law 1;");
        for (int v = 0; v < 50; v += 7) {
            x.debt(3, 2, v);
            door(x, 3, 10, 2, v + 1);
        }
        check.says("then the least ONE");
        LetsIn son = Check.townOf("one plain 0 9 0 0;one plain 1 4 0 0;one son 4 2 2 0 0;one plain 3 1 0 50;"
                + "one plain 60 1 0 0;");
        door(son, 3, 10, 2, 1);
        LetsIn father = Check.townOf("one plain 0 9 0 0;one plain 60 4 0 0;one son 1 2 2 0 0;one plain 3 1 0 50;");
        door(father, 3, 6, 1, 1);
        check.says("the fewest ahead of the least ONE");
        // 0, lent three, makes 4 even with 3, who then need not let him in; 1 or 2, lent one, make 2 let in 3
        LetsIn dear = Check.townOf("law 1;one payer 3 2 0 1;one rich 2 2 0 11;one son 1 0 1 0 10;one son 0 0 3 0 3;"
                + "one son 0 0 1 0 7;debt 0 4 3;debt 1 4 6;");
        check.due("now", 4, dear.waits(3));
        door(dear, 3, 1, 1, 1);
        check.due("0 lent three", 3, dear.lend(3, 0, 3));
        check.due("would do, too", 1, dear.waits(3));
    }

    private void doorBounds() {
        check.says("lends: v COINS (1 to 50), as many as he has");
        LetsIn x = standing("law 1;");
        x.debt(3, 2, 49);
        door(x, 3, 10, 2, 50);
        x.debt(3, 2, 50);
        noDoor(x, 3);
        check.says("more than 50 are not lent, though he has them");
        LetsIn z = Check.townOf("law 1;one plain 0 9 0 50;one plain 1 4 0 0;one plain 2 2 0 0;one plain 3 1 0 50;");
        z.debt(0, 3, 50);
        z.pay(0, 3);
        check.due("he has", 100, z.one(3, 4));
        z.debt(3, 2, 49);
        door(z, 3, 10, 2, 50);
        z.debt(3, 2, 50);
        noDoor(z, 3);
        check.says("who has none lends none");
        noDoor(Check.townOf("one plain 0 9 0 0;one plain 1 4 0 0;one plain 2 2 0 0;"), 2);
        check.says("nobody is let in for it: proud ones, who are ahead of rich ones");
        noDoor(Check.townOf("one plain 0 9 0 0;one plain 1 4 0 0;one proud 2 2 0 50;"), 2);
        noDoor(Check.townOf("one plain 0 9 0 0;one plain 1 4 0 0;one rich 2 2 0 50;"), 2);
    }

    private void doorFull() {
        check.says("lend: FULL: he would OWE more than 999");
        LetsIn x = standing("law 1;");
        for (int i = 0; i < 10; i++) {
            x.debt(2, 0, 99);
            x.sell(2, 0, 3);
            x.debt(3, 0, 99);
            x.sell(3, 0, 2);
        }
        door(x, 3, 10, 2, 1);
        x.debt(3, 0, 8);
        check.due("3 owes 2", 998, x.sell(3, 0, 2));
        door(x, 3, 10, 2, 9);
        x.debt(3, 0, 1);
        check.due("3 owes 2", 999, x.sell(3, 0, 2));
        noDoor(x, 3);
    }

    private void buyLess() {
        check.says("so as to WAIT least, less than now: his WAIT then, 10 times who OWES it and whom, COINS");
        LetsIn x = standing("");
        noBuy(x, 3);
        x.debt(1, 0, 5);
        noBuy(x, 3);
        x.debt(2, 0, 6);
        buy(x, 3, 10, 20, 6);
        x.debt(2, 3, 1);
        buy(x, 3, 6, 10, 5);
        x.debt(1, 3, 1);
        noBuy(x, 3);
        check.says("by itself");
        check.due("owes", 5, x.owes(1, 0));
        check.due("coins", 50, x.one(3, 4));
        check.says("from one MINUTE to none");
        buy(Check.townOf("one plain 0 1 0 0;one plain 0 1 0 1;one plain 9 1 0 0;debt 0 2 1;"), 1, 0, 2, 1);
    }

    private void buyLeast() {
        check.says("to WAIT least, ahead of the fewest COINS");
        // 4 is the father of 1 and of 2: his debt makes both let in 3, 2's own debt only 2
        LetsIn x = Check.townOf("one plain 0 9 0 0;one son 4 1 4 0 0;one son 4 2 2 0 0;one plain 3 1 0 50;"
                + "one plain 60 1 0 0;debt 2 0 1;debt 4 0 50;");
        buy(x, 3, 6, 40, 50);
        x.debt(4, 0, 51);
        buy(x, 3, 10, 20, 1);
    }

    private void buyFewest() {
        check.says("the fewest COINS, then the first by these");
        LetsIn x = standing("");
        x.debt(2, 0, 5);
        x.debt(2, 1, 5);
        x.debt(2, 4, 5);
        buy(x, 3, 10, 20, 5);
        x.debt(2, 0, 6);
        buy(x, 3, 10, 21, 5);
        x.debt(2, 4, 4);
        buy(x, 3, 10, 24, 4);
        // who OWES it comes first: the father 1 and his son 2
        LetsIn son = Check.townOf("one plain 0 9 0 0;one plain 60 4 0 0;one son 1 2 2 0 0;one plain 3 1 0 50;"
                + "one plain 60 1 0 0;debt 1 4 5;debt 2 0 5;");
        buy(son, 3, 6, 14, 5);
        son.debt(2, 0, 4);
        buy(son, 3, 6, 20, 4);
    }

    private void buyCoins() {
        check.says("for as many COINS as it is");
        LetsIn x = standing("");
        x.debt(2, 0, 50);
        buy(x, 3, 10, 20, 50);
        x.debt(2, 0, 51);
        noBuy(x, 3);
        x.debt(2, 0, 1);
        buy(x, 3, 10, 20, 1);
        x.lend(3, 4, 49);
        buy(x, 3, 10, 20, 1);
        x.lend(3, 4, 1);
        noBuy(x, 3);
        check.says("COINS above 50 buy as well");
        LetsIn z = Check.townOf("one plain 0 9 0 50;one plain 1 4 0 0;one plain 2 2 0 0;one plain 3 1 0 49;debt 2 0 99;"
                + "debt 0 3 50;");
        z.pay(0, 3);
        buy(z, 3, 10, 20, 99);
        check.says("he gives them to whom it was OWED, who has them with his own");
        for (int own = 3; own <= 5; own++) {
            // the payer 1 OWES 3 13: with the 9 that 3 gives him he can pay that from 4 of his own on
            LetsIn y = Check.townOf("one plain 0 5 0 9;one payer 1 4 0 " + own + ";one plain 2 2 0 9;one plain 3 1 0 9;"
                    + "debt 1 3 13;debt 2 1 9;");
            check.due("now", 8, y.waits(3));
            buy(y, 3, own >= 4 ? 6 : 2, 21, 9);
        }
        check.says("he gives them to whom it was OWED, and it is OWED to him: by law 1 with what he was OWED");
        LetsIn w = standing("law 1;");
        w.debt(3, 2, 7);
        w.debt(2, 0, 7);
        noBuy(w, 3);
        w.debt(2, 3, 1);
        buy(w, 3, 10, 20, 7);
    }

    private void buyWhose() {
        check.says("Which DEBT of another one to another one");
        LetsIn x = standing("");
        x.debt(3, 2, 5);
        x.debt(3, 1, 5);
        noBuy(x, 3);
        x.debt(2, 3, 5);
        x.debt(1, 2, 5);
        buy(x, 3, 6, 12, 5);
        x.debt(1, 2, 0);
        noBuy(x, 3);
    }

    private void buyFull() {
        check.says("nobody comes to OWE more than 999");
        LetsIn x = standing("law 1;");
        for (int i = 0; i < 10; i++) {
            x.debt(2, 0, 99);
            x.sell(2, 0, 3);
            x.debt(3, 0, 99);
            x.sell(3, 0, 2);
        }
        x.debt(2, 0, 9);
        buy(x, 3, 10, 20, 9);
        x.debt(2, 0, 10);
        noBuy(x, 3);
    }
}
