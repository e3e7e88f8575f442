/** Promises 10 to 16: what is changed. */
public final class ChangeTest {
    private final Check check = new Check("ChangeTest");

    public static void main(String[] args) {
        ChangeTest test = new ChangeTest();
        test.promise10and11();
        test.promise12();
        test.promise13();
        test.promise14();
        test.promise15();
        test.promise15and16Full();
        test.promise16();
        test.check.finish();
    }

    private static LetsIn three() {
        return Check.townOf("one plain 1 2 3 10;one plain 4 5 6 20;one plain 7 8 9 50;debt 0 1 7;debt 1 2 21;");
    }

    private void promise10and11() {
        LetsIn x = three();
        check.due("law", 0, x.law(1));
        check.due("law", 1, x.law(1));
        check.due("law", -1, x.law(2));
        check.due("law", -1, x.law(-1));
        check.due("it stays", 1, x.rule(1));
        check.due("law", 1, x.law(0));
        check.due("counters", 1, x.counters(2));
        check.due("counters", 2, x.counters(2));
        check.due("counters", -1, x.counters(0));
        check.due("counters", -1, x.counters(3));
        check.due("they stay", 2, x.rule(2));
        check.due("counters", 2, x.counters(1));
        check.due("then", 1, x.rule(2));
    }

    private void promise12() {
        LetsIn x = three();
        check.due("comes", 4, x.comes(1, 60));
        check.due("comes", 60, x.comes(1, 0));
        check.due("too late", -1, x.comes(1, 61));
        check.due("below 0", -1, x.comes(1, -1));
        check.due("nobody", -1, x.comes(3, 0));
        check.due("nobody", -1, x.comes(-1, 0));
        check.due("then", 0, x.one(1, 1));
        check.due("another", 7, x.one(2, 1));
    }

    private void promise13() {
        LetsIn x = three();
        check.due("debt", 7, x.debt(0, 1, 99));
        check.due("debt", 99, x.debt(0, 1, 0));
        check.due("too much", -1, x.debt(0, 1, 100));
        check.due("below 0", -1, x.debt(0, 1, -1));
        check.due("alike", -1, x.debt(1, 1, 1));
        check.due("nobody", -1, x.debt(0, 3, 1));
        check.due("nobody", -1, x.debt(3, 0, 1));
        check.due("nobody", -1, x.debt(-1, 0, 1));
        check.due("then", 0, x.owes(0, 1));
        check.due("the other way", 0, x.owes(1, 0));
        check.due("coins stay", 10, x.one(0, 4));
    }

    private void promise14() {
        LetsIn x = three();
        check.due("not so many", -2, x.pay(1, 2));
        check.due("it is owed still", 21, x.owes(1, 2));
        check.due("coins stay", 20, x.one(1, 4));
        check.due("pay", 7, x.pay(0, 1));
        check.due("is owed no more", 0, x.owes(0, 1));
        check.due("who paid", 3, x.one(0, 4));
        check.due("who was paid", 27, x.one(1, 4));
        check.due("nothing", -4, x.pay(0, 1));
        check.due("pay", 21, x.pay(1, 2));
        check.due("coins above 50", 71, x.one(2, 4));
        x.debt(1, 0, 6);
        check.due("all he has", 6, x.pay(1, 0));
        check.due("has none", 0, x.one(1, 4));
        check.due("alike", -1, x.pay(1, 1));
        check.due("nobody", -1, x.pay(1, 3));
        check.due("nobody", -1, x.pay(-1, 1));
    }

    private void promise15() {
        LetsIn x = three();
        check.due("lend", 17, x.lend(1, 0, 10));
        check.due("coins less", 10, x.one(1, 4));
        check.due("coins more", 20, x.one(0, 4));
        check.due("who lent owes nothing", 0, x.owes(1, 0));
        check.due("not so many", -2, x.lend(1, 0, 11));
        check.due("it stays", 17, x.owes(0, 1));
        check.due("all he has", 27, x.lend(1, 0, 10));
        check.due("too few", -1, x.lend(1, 0, 0));
        check.due("too many", -1, x.lend(2, 0, 51));
        check.due("50", 50, x.lend(2, 0, 50));
        check.due("alike", -1, x.lend(2, 2, 1));
        check.due("nobody", -1, x.lend(2, 3, 1));
        check.due("nobody", -1, x.lend(3, 2, 1));
        check.due("bad ahead of state", -1, x.lend(2, 0, 99));
    }

    private void promise15and16Full() {
        LetsIn x = three();
        // 0 OWES 2 990 by ten debts that are sold
        for (int i = 1; i <= 10; i++) {
            x.debt(0, 1, 99);
            check.due("sell", 99 * i, x.sell(0, 1, 2));
        }
        x.debt(0, 1, 10);
        check.due("1000", -3, x.sell(0, 1, 2));
        check.due("it stays", 10, x.owes(0, 1));
        check.due("it stays", 990, x.owes(0, 2));
        check.due("1000", -3, x.lend(2, 0, 10));
        check.due("coins stay", 50, x.one(2, 4));
        check.due("999", 999, x.lend(2, 0, 9));
        check.due("has 41: state ahead of full", -2, x.lend(2, 0, 50));
        check.due("full", -3, x.lend(2, 0, 1));
        check.due("none is full", -3, x.sell(0, 1, 2));
        check.due("to himself it is never full", 0, x.sell(0, 2, 0));
        check.due("999 is not full", 0, x.owes(0, 2));
        x.debt(0, 2, 9);
        check.due("sell", 19, x.sell(0, 1, 2));
    }

    private void promise16() {
        LetsIn x = three();
        x.debt(0, 2, 5);
        check.due("sell", 12, x.sell(0, 1, 2));
        check.due("no more", 0, x.owes(0, 1));
        check.due("instead", 12, x.owes(0, 2));
        check.due("coins stay", 10, x.one(0, 4));
        check.due("coins stay", 20, x.one(1, 4));
        check.due("coins stay", 50, x.one(2, 4));
        check.due("nothing", -4, x.sell(0, 1, 2));
        check.due("nothing", -4, x.sell(0, 1, 0));
        check.due("to himself", 0, x.sell(0, 2, 0));
        check.due("no more", 0, x.owes(0, 2));
        check.due("one debt is left", 1, x.count(0));
        check.due("b is a", -1, x.sell(1, 1, 2));
        check.due("b is c", -1, x.sell(1, 2, 2));
        check.due("nobody", -1, x.sell(1, 2, 3));
        check.due("nobody", -1, x.sell(3, 2, 1));
        check.due("nobody", -1, x.sell(1, 3, 2));
        check.due("it stays", 21, x.owes(1, 2));
    }
}
