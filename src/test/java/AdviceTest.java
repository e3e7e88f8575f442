/** Promises 27 to 29: whom to pay off, whom to lend, which debt to buy. */
public final class AdviceTest {
    private final Check check = new Check("AdviceTest");

    public static void main(String[] args) {
        AdviceTest test = new AdviceTest();
        test.promise27();
        test.promise27Sets();
        test.promise27Payers();
        test.promise28();
        test.promise28Amounts();
        test.promise28Bounds();
        test.promise29();
        test.promise29Coins();
        test.promise29Then();
        test.promise29Bounds();
        test.wrongNumbers();
        test.check.finish();
    }

    private void clear(LetsIn x, int p, int t, int coins, int whom) {
        check.due("clear(" + p + ", " + t + ", 0)", coins, x.clear(p, t, 0));
        check.due("clear(" + p + ", " + t + ", 1)", whom, x.clear(p, t, 1));
    }

    private void door(LetsIn x, int p, int wait, int whom, int coins) {
        check.due("door(" + p + ", 0)", wait, x.door(p, 0));
        check.due("door(" + p + ", 1)", whom, x.door(p, 1));
        check.due("door(" + p + ", 2)", coins, x.door(p, 2));
    }

    private void buy(LetsIn x, int p, int wait, int which, int coins) {
        check.due("buy(" + p + ", 0)", wait, x.buy(p, 0));
        check.due("buy(" + p + ", 1)", which, x.buy(p, 1));
        check.due("buy(" + p + ", 2)", coins, x.buy(p, 2));
    }

    private void promise27() {
        // 1 owes 2 and 3, who come behind him; 0 is served until 5
        LetsIn x = Check.townOf("one plain 0 5 0 0;one plain 1 1 0 9;one plain 2 2 0 0;one plain 3 4 0 0;"
                + "debt 1 2 4;debt 1 3 5;");
        check.due("now", 11, x.served(1));
        clear(x, 1, 130, 0, 0);
        clear(x, 1, 11, 0, 0);
        // paying off 2 is enough: 3 stops behind 2, who owes him nothing
        clear(x, 1, 10, 4, 4);
        x.debt(1, 3, 6);
        clear(x, 1, 6, 4, 4);
        clear(x, 1, 5, 4, 4);
        clear(x, 1, 4, -4, -4);
        check.due("nothing changed", 9, x.one(1, 4));
        check.due("nothing changed", 4, x.owes(1, 2));
        x.debt(1, 2, 10);
        // more than he has; paying off 3 alone: 2 goes ahead
        clear(x, 1, 5, -4, -4);
        clear(x, 1, 6, -4, -4);
        clear(x, 1, 7, 6, 8);
    }

    private void promise27Sets() {
        // 2 owes 3, so that 3 comes to stand behind 1 whatever 2 does
        LetsIn x = Check.townOf("one plain 0 5 0 0;one plain 1 1 0 9;one plain 2 2 0 0;one plain 3 4 0 0;"
                + "debt 1 2 4;debt 1 3 5;debt 2 3 1;");
        clear(x, 1, 5, 9, 12);
        clear(x, 1, 6, 9, 12);
        clear(x, 1, 7, 5, 8);
        clear(x, 1, 9, 4, 4);
        // as many coins for 2 as for 3: the lesser set
        x.debt(1, 3, 4);
        clear(x, 1, 9, 4, 4);
        clear(x, 1, 8, 4, 8);
        // a debt that is nothing is in no set
        LetsIn y = Check.townOf("one plain 0 5 0 0;one plain 1 1 0 9;one plain 2 2 0 0;debt 1 2 9;");
        clear(y, 1, 5, 9, 4);
        // the first ONE is owed, one coin
        LetsIn z = Check.townOf("one plain 2 1 0 0;one plain 1 1 0 1;one plain 0 5 0 0;debt 1 0 1;");
        clear(z, 1, 6, 0, 0);
        clear(z, 1, 5, 1, 1);
    }

    private void promise27Payers() {
        // 1 pays off the payer 2, who then can pay 3, and so stays ahead of him
        LetsIn x = Check.townOf("one plain 0 5 0 0;one plain 1 1 0 4;one payer 2 2 0 0;one plain 3 4 0 0;"
                + "debt 1 2 4;debt 1 3 4;debt 2 3 4;");
        check.due("now", 11, x.served(1));
        clear(x, 1, 5, 4, 4);
    }

    private void promise28() {
        LetsIn x = Check.townOf("one plain 0 5 0 9;one plain 1 4 0 9;one plain 2 2 0 9;one plain 3 1 0 9;");
        check.due("now", 8, x.waits(3));
        // 3 behind 2 behind 1: only 2, who is next ahead, can be passed first
        door(x, 3, 6, 2, 1);
        check.due("nothing changed", 9, x.one(3, 4));
        check.due("nothing changed", 0, x.owes(2, 3));
        x.debt(2, 3, 1);
        door(x, 3, 2, 1, 1);
        x.debt(1, 3, 1);
        check.due("now", 2, x.waits(3));
        door(x, 3, -4, -4, -4);
        door(x, 0, -4, -4, -4);
        door(x, 1, -4, -4, -4);
        // 2 passes 1, and 3 both
        door(x, 2, 4, 1, 1);
    }

    private void promise28Amounts() {
        // law 1: 1 must owe 2 more than 2 owes him
        LetsIn x = Check.townOf("law 1;one plain 0 5 0 9;one plain 1 4 0 9;one plain 2 2 0 50;debt 2 1 30;");
        door(x, 2, 3, 1, 31);
        x.debt(2, 1, 49);
        door(x, 2, 3, 1, 50);
        x.debt(2, 1, 50);
        door(x, 2, -4, -4, -4);
        x.debt(2, 1, 30);
        x.lend(2, 0, 20);
        check.due("30 coins are not enough", -4, x.door(2, 0));
        // a payer pays back at once what he was lent, unless he owes more than he has
        LetsIn y = Check.townOf("one plain 0 5 0 9;one payer 1 4 0 0;one plain 2 2 0 50;");
        door(y, 2, -4, -4, -4);
        LetsIn z = Check.townOf("one plain 0 5 0 9;one payer 1 4 0 0;one plain 2 2 0 50;debt 1 0 7;");
        door(z, 2, -4, -4, -4);
        // a father who is lent makes his son let in as well: the least one of both
        LetsIn w = Check.townOf("one plain 0 5 0 0;one son 0 1 4 0 0;one plain 2 2 0 9;");
        door(w, 2, 3, 0, 1);
        LetsIn v = Check.townOf("one plain 0 5 0 0;one son 3 1 4 0 0;one plain 2 2 0 9;one plain 50 1 0 0;");
        door(v, 2, 3, 1, 1);
        // from one MINUTE to none
        LetsIn u = Check.townOf("one plain 0 2 0 0;one plain 1 1 0 0;one plain 2 2 0 1;");
        door(u, 2, 0, 1, 1);
    }

    private void promise28Bounds() {
        LetsIn x = Check.townOf("law 1;one plain 0 5 0 9;one plain 1 4 0 50;one plain 2 2 0 50;");
        // 1 owes 2 990 by ten debts that are sold, 2 owes 1 as much and 9 more
        for (int i = 0; i < 10; i++) {
            x.debt(1, 0, 99);
            x.sell(1, 0, 2);
            x.debt(2, 0, 99);
            x.sell(2, 0, 1);
        }
        x.debt(2, 0, 8);
        x.sell(2, 0, 1);
        check.due("998", 998, x.owes(2, 1));
        door(x, 2, 3, 1, 9);
        x.debt(2, 0, 1);
        x.sell(2, 0, 1);
        check.due("999", 999, x.owes(2, 1));
        door(x, 2, -4, -4, -4);
    }

    private void promise29() {
        LetsIn x = Check.townOf("one plain 0 5 0 9;one plain 1 4 0 9;one plain 2 2 0 9;one plain 3 1 0 9;"
                + "debt 2 0 4;debt 1 0 2;");
        check.due("now", 8, x.waits(3));
        buy(x, 3, 6, 20, 4);
        check.due("nothing changed", 4, x.owes(2, 0));
        check.due("nothing changed", 9, x.one(3, 4));
        x.debt(2, 1, 4);
        buy(x, 3, 6, 20, 4);
        x.debt(2, 1, 3);
        buy(x, 3, 6, 21, 3);
        x.debt(2, 3, 1);
        buy(x, 3, 2, 10, 2);
        x.debt(1, 3, 1);
        buy(x, 3, -4, -4, -4);
        buy(x, 0, -4, -4, -4);
        // who owes the debt is another one than he himself, and so is who is owed
        LetsIn y = Check.townOf("one plain 0 5 0 9;one plain 1 4 0 9;one plain 2 2 0 9;debt 2 1 3;");
        buy(y, 2, -4, -4, -4);
        y.debt(2, 1, 0);
        y.debt(1, 2, 3);
        check.due("2 passes 1, who could pay", 6, y.waits(1));
        clear(y, 1, 5, 3, 4);
        buy(y, 1, -4, -4, -4);
        // the first ONE owes it, one coin
        LetsIn z = Check.townOf("one plain 1 4 0 9;one plain 0 5 0 9;one plain 2 2 0 1;debt 0 1 1;");
        buy(z, 2, 3, 1, 1);
    }

    private void promise29Then() {
        // he has the coins no more: a payer who then can not pay 3
        LetsIn x = Check.townOf("one plain 0 5 0 0;one plain 1 4 0 0;one payer 2 2 0 9;one plain 3 1 0 0;"
                + "debt 1 0 9;debt 1 3 50;debt 2 3 5;");
        check.due("now 2 pays 3", 7, x.waits(2));
        buy(x, 2, 4, 10, 9);
        // it is owed no more to whom it was owed: 3 stops behind 1
        LetsIn y = Check.townOf("one plain 0 5 0 0;one plain 1 4 0 0;one plain 2 2 0 9;one plain 3 1 0 0;"
                + "debt 1 3 5;debt 2 3 7;");
        check.due("now", 8, y.waits(2));
        buy(y, 2, 3, 13, 5);
    }

    private void promise29Bounds() {
        LetsIn x = Check.townOf("law 1;one plain 0 5 0 9;one plain 1 4 0 50;one plain 2 2 0 50;");
        // 1 owes 2 990 by ten debts that are sold, 2 owes 1 as much and 5 more
        for (int i = 0; i < 10; i++) {
            x.debt(1, 0, 99);
            x.sell(1, 0, 2);
            x.debt(2, 0, 99);
            x.sell(2, 0, 1);
        }
        x.debt(2, 0, 5);
        x.sell(2, 0, 1);
        x.debt(1, 0, 9);
        buy(x, 2, 3, 10, 9);
        x.debt(1, 0, 10);
        buy(x, 2, -4, -4, -4);
    }

    private void promise29Coins() {
        LetsIn x = Check.townOf("one plain 0 5 0 9;one plain 1 4 0 9;one plain 2 2 0 9;debt 1 0 10;");
        buy(x, 2, -4, -4, -4);
        x.debt(1, 0, 9);
        buy(x, 2, 3, 10, 9);
        // the coins go to whom it was owed: a payer, who then can pay
        LetsIn y = Check.townOf("one plain 0 5 0 9;one payer 1 4 0 0;one plain 2 2 0 9;one plain 3 1 0 9;"
                + "debt 1 3 9;debt 2 1 9;");
        check.due("now: 3 stands behind 2", 8, y.waits(3));
        buy(y, 3, 6, 21, 9);
        // bought debt of a payer: he pays it, if he can
        LetsIn z = Check.townOf("one plain 0 5 0 0;one payer 1 4 0 5;one plain 2 2 0 9;debt 1 0 5;");
        buy(z, 2, -4, -4, -4);
        LetsIn w = Check.townOf("one plain 0 5 0 0;one payer 1 4 0 4;one plain 2 2 0 9;debt 1 0 5;");
        buy(w, 2, 3, 10, 5);
    }

    private void wrongNumbers() {
        LetsIn x = Check.townOf("one plain 0 5 0 9;one plain 1 4 0 9;debt 0 1 1;");
        check.due("clear", -1, x.clear(2, 0, 0));
        check.due("clear", -1, x.clear(-1, 0, 0));
        check.due("clear", -1, x.clear(0, -1, 0));
        check.due("clear", -1, x.clear(0, 131, 0));
        check.due("clear", -1, x.clear(0, 0, 2));
        check.due("clear", -1, x.clear(0, 0, -1));
        check.due("clear", 0, x.clear(0, 130, 0));
        check.due("clear", -4, x.clear(1, 4, 0));
        check.due("door", -1, x.door(2, 0));
        check.due("door", -1, x.door(-1, 0));
        check.due("door", -1, x.door(1, 3));
        check.due("door", -1, x.door(1, -1));
        check.due("buy", -1, x.buy(2, 0));
        check.due("buy", -1, x.buy(-1, 0));
        check.due("buy", -1, x.buy(1, 3));
        check.due("buy", -1, x.buy(1, -1));
    }
}
