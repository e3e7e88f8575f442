/** The edges of what is changed (promises 10 to 16), sentence by sentence. */
public final class ChangeEdgesTest {
    private static final int STATE = -2, FULL = -3, NONE = -4;

    private final Check check = new Check("ChangeEdgesTest");

    public static void main(String[] args) {
        ChangeEdgesTest test = new ChangeEdgesTest();
        test.rules();
        test.comes();
        test.debt();
        test.pay();
        test.payMuch();
        test.lend();
        test.lendFull();
        test.sell();
        test.sellToHimself();
        test.sellFull();
        test.check.finish();
    }

    private static LetsIn three(int coins) {
        return Check.townOf("one plain 0 9 1 " + coins + ";one plain 1 1 1 50;one plain 2 1 1 50;");
    }

    /** a comes to OWE b this much by DEBTS to a third one, which are sold. */
    private static void owe(LetsIn x, int a, int b, int v) {
        int third = 3 - a - b;
        x.debt(a, b, 0);
        for (int left = v; left > 0; left -= 99) {
            x.debt(a, third, Math.min(left, 99));
            x.sell(a, third, b);
        }
    }

    private void has(LetsIn x, int... coins) {
        for (int p = 0; p < coins.length; p++) {
            check.due("coins of " + p, coins[p], x.one(p, 4));
        }
    }

    private void rules() {
        check.says("LAW becomes v: what it was. COUNTERS become v: what they were");
        LetsIn x = new LetsIn();
        check.due("law", 0, x.law(0));
        check.due("law", 0, x.law(1));
        check.due("law", 1, x.law(1));
        check.due("law", 1, x.law(0));
        check.due("law", 0, x.rule(1));
        check.due("counters", 1, x.counters(1));
        check.due("counters", 1, x.counters(2));
        check.due("counters", 2, x.counters(2));
        check.due("counters", 2, x.counters(1));
        check.due("counters", 1, x.rule(2));
    }

    private void comes() {
        check.says("COMES of a ONE becomes t: what it was");
        LetsIn x = three(0);
        check.due("60", 1, x.comes(1, 60));
        check.due("60 again", 60, x.comes(1, 60));
        check.due("0", 60, x.comes(1, 0));
        check.due("0", 0, x.one(1, 1));
        check.due("who stands first", 0, x.stands(0));
        x.comes(0, 1);
        check.due("who stands first then", 1, x.stands(0));
    }

    private void debt() {
        check.says("a OWES b v (0 to 99): what he did");
        LetsIn x = three(0);
        check.due("nothing", 0, x.debt(0, 1, 0));
        check.due("nothing", 0, x.debt(0, 1, 99));
        check.due("99", 99, x.debt(0, 1, 99));
        check.due("99", 99, x.debt(0, 1, 1));
        check.due("1", 1, x.debt(0, 1, 0));
        owe(x, 0, 1, 999);
        check.due("999", 999, x.debt(0, 1, 5));
        check.due("5", 5, x.owes(0, 1));
        check.due("the other way", 0, x.owes(1, 0));
        has(x, 0, 50, 50);
    }

    private void pay() {
        check.says("a pays b all that he OWES him: how much. STATE: he has not so many COINS");
        for (int coins = 0; coins <= 9; coins++) {
            LetsIn x = three(coins);
            x.debt(0, 1, 5);
            check.due("pay 5 of " + coins, coins >= 5 ? 5 : STATE, x.pay(0, 1));
            has(x, coins >= 5 ? coins - 5 : coins, coins >= 5 ? 55 : 50, 50);
            check.due("owes", coins >= 5 ? 0 : 5, x.owes(0, 1));
        }
        check.says("NONE: nothing");
        LetsIn none = three(0);
        none.debt(1, 0, 5);
        check.due("nothing, and no coins", NONE, none.pay(0, 1));
        check.due("nothing", NONE, none.pay(2, 1));
        check.due("the other way", 5, none.pay(1, 0));
        has(none, 5, 45, 50);
        check.due("then nothing", NONE, none.pay(1, 0));
    }

    private void payMuch() {
        check.says("pays all that he OWES him, above 99 as well");
        LetsIn x = three(50);
        x.debt(1, 0, 50);
        x.debt(2, 0, 50);
        x.pay(1, 0);
        x.pay(2, 0);
        has(x, 150, 0, 0);
        owe(x, 0, 1, 151);
        check.due("151 of 150", STATE, x.pay(0, 1));
        owe(x, 0, 1, 150);
        check.due("150 of 150", 150, x.pay(0, 1));
        has(x, 0, 150, 0);
    }

    private void lend() {
        check.says("a lends b v COINS (1 to 50): what b OWES him then. STATE: he has not so many");
        for (int coins : new int[] {0, 1, 2, 49, 50}) {
            for (int v : new int[] {1, 2, 49, 50}) {
                LetsIn x = three(coins);
                x.debt(1, 0, 3);
                boolean can = v <= coins;
                check.due("lend " + v + " of " + coins, can ? 3 + v : STATE, x.lend(0, 1, v));
                has(x, can ? coins - v : coins, can ? 50 + v : 50, 50);
                check.due("owes", can ? 3 + v : 3, x.owes(1, 0));
                check.due("the other way", 0, x.owes(0, 1));
            }
        }
    }

    private void lendFull() {
        check.says("FULL: he would OWE more than 999");
        for (int owed = 997; owed <= 999; owed++) {
            LetsIn x = three(50);
            owe(x, 1, 0, owed);
            check.due("owes", owed, x.owes(1, 0));
            check.due("two more", owed == 997 ? 999 : FULL, x.lend(0, 1, 2));
            check.due("one more", owed == 998 ? 999 : FULL, x.lend(0, 1, 1));
            check.due("who lends may owe as much", owed == 998 ? 49 : owed == 997 ? 48 : 50, x.one(0, 4));
        }
        check.says("STATE ahead of FULL");
        LetsIn y = three(3);
        owe(y, 1, 0, 999);
        check.due("4 of 3", STATE, y.lend(0, 1, 4));
        check.due("3 of 3", FULL, y.lend(0, 1, 3));
        check.says("what the other OWES does not count");
        check.due("the other way", 7, y.lend(1, 0, 7));
    }

    private void sell() {
        check.says("What a OWES b he OWES c instead, with what he OWES c: how much that is then");
        LetsIn x = three(9);
        x.debt(0, 1, 1);
        check.due("1", 1, x.sell(0, 1, 2));
        check.due("no more", 0, x.owes(0, 1));
        x.debt(0, 1, 99);
        check.due("99 and 1", 100, x.sell(0, 1, 2));
        check.due("instead", 100, x.owes(0, 2));
        check.due("the other way", 100, x.sell(0, 2, 1));
        has(x, 9, 50, 50);
        check.says("NONE: nothing");
        check.due("nothing", NONE, x.sell(0, 2, 1));
        check.due("nothing", NONE, x.sell(1, 0, 2));
        check.due("nothing", NONE, x.sell(1, 0, 1));
    }

    private void sellToHimself() {
        check.says("0: what he OWED himself is no more, c being a");
        LetsIn x = three(9);
        x.debt(0, 1, 5);
        x.debt(0, 2, 6);
        x.debt(1, 0, 7);
        check.due("sell", 0, x.sell(0, 1, 0));
        check.due("no more", 0, x.owes(0, 1));
        check.due("others stay", 6, x.owes(0, 2));
        check.due("others stay", 7, x.owes(1, 0));
        check.due("debts", 2, x.count(0));
        check.due("summed", 13, x.count(1));
        check.due("nothing then", NONE, x.sell(0, 1, 0));
        owe(x, 0, 1, 999);
        check.due("never full", 0, x.sell(0, 1, 0));
        has(x, 9, 50, 50);
    }

    private void sellFull() {
        check.says("FULL: more than 999");
        for (int v = 1; v <= 3; v++) {
            LetsIn x = three(9);
            owe(x, 0, 2, 997);
            x.debt(0, 1, v);
            check.due("997 and " + v, v <= 2 ? 997 + v : FULL, x.sell(0, 1, 2));
            check.due("owes 2", v <= 2 ? 997 + v : 997, x.owes(0, 2));
            check.due("owes 1", v <= 2 ? 0 : 3, x.owes(0, 1));
        }
        LetsIn y = three(9);
        owe(y, 0, 1, 999);
        check.due("999 to nothing", 999, y.sell(0, 1, 2));
        y.debt(0, 1, 1);
        check.due("1 to 999", FULL, y.sell(0, 1, 2));
        check.due("999 to 1", FULL, y.sell(0, 2, 1));
    }
}
