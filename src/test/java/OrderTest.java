/** Promises 23 to 26: THE ROW, ORDERS, RINGS, THE BEST ORDER. */
public final class OrderTest {
    private static final String ONE = "one plain 0 1 1 1;";

    private final Check check = new Check("OrderTest");

    public static void main(String[] args) {
        OrderTest test = new OrderTest();
        test.promise23();
        test.promise23Seven();
        test.promise23Payers();
        test.promise24();
        test.promise24Rings();
        test.promise25();
        test.promise26();
        test.promise26Alike();
        test.check.finish();
    }

    private void row(LetsIn x, int... want) {
        for (int i = 0; i < want.length; i++) {
            check.due("stands(" + i + ")", want[i], x.stands(i));
        }
        check.due("behind the last", -1, x.stands(want.length));
        check.due("ahead of the first", -1, x.stands(-1));
    }

    private void order(LetsIn x, int... want) {
        for (int i = 0; i < want.length; i++) {
            check.due("order(1" + i + ")", want[i], x.order(10 + i));
        }
        outside(x, want.length);
    }

    private void shop(LetsIn x, int... want) {
        for (int i = 0; i < want.length; i++) {
            check.due("shop(1" + i + ")", want[i], x.shop(10 + i));
        }
        outside(x, want.length);
    }

    private void outside(LetsIn x, int people) {
        for (int what : new int[] {-1, 1, 2, 9, 10 + people, 17, Integer.MIN_VALUE, Integer.MAX_VALUE}) {
            check.due("order(" + what + ")", -1, x.order(what));
            check.due("shop(" + what + ")", -1, x.shop(what));
        }
    }

    private void promise23() {
        // by COMES, then by numbers: 3, 1, 2, 0; nobody is served
        LetsIn x = Check.townOf("one plain 9 1 1 1;one plain 5 1 1 1;one plain 5 1 1 1;one plain 0 1 1 1;");
        row(x, 3, 1, 2, 0);
        x.debt(2, 0, 1);
        row(x, 3, 1, 0, 2);
        x.debt(3, 0, 1);
        row(x, 3, 1, 0, 2);
        x.debt(1, 0, 1);
        row(x, 0, 3, 1, 2);
        x.debt(0, 2, 9);
        row(x, 0, 3, 1, 2);
        x.law(1);
        row(x, 3, 1, 2, 0);
        x.debt(0, 2, 0);
        x.debt(0, 1, 1);
        row(x, 3, 1, 0, 2);
    }

    private void promise23Seven() {
        LetsIn x = Check.townOf("one plain 6 1 1 1;one plain 5 1 1 1;one plain 4 1 1 1;one plain 3 1 1 1;"
                + "one plain 2 1 1 1;one plain 1 1 1 1;one plain 0 1 1 1;");
        row(x, 6, 5, 4, 3, 2, 1, 0);
        for (int a = 1; a < 7; a++) {
            x.debt(a, 0, 1);
        }
        row(x, 0, 6, 5, 4, 3, 2, 1);
    }

    private void promise23Payers() {
        LetsIn x = Check.townOf("one payer 0 1 1 50;one plain 1 1 1 1;debt 0 1 5;");
        row(x, 1, 0);
        check.due("he would pay", 0, x.all(3));
        x.comes(1, 0);
        row(x, 1, 0);
        check.due("he pays in the run", 5, x.all(3));
    }

    private void promise24() {
        LetsIn x = Check.townOf(ONE + ONE + ONE + ONE);
        check.due("any", 24, x.order(0));
        order(x, 0, 1, 2, 3);
        x.debt(0, 3, 1);
        check.due("3 ahead of 0", 12, x.order(0));
        order(x, 1, 2, 3, 0);
        x.debt(1, 3, 1);
        check.due("3 ahead of 0, 1", 8, x.order(0));
        order(x, 2, 3, 0, 1);
        x.debt(2, 3, 1);
        check.due("3 ahead of all", 6, x.order(0));
        order(x, 3, 0, 1, 2);
        LetsIn seven = Check.townOf(ONE + ONE + ONE + ONE + ONE + ONE + ONE);
        check.due("seven", 5040, seven.order(0));
        order(seven, 0, 1, 2, 3, 4, 5, 6);
        LetsIn payer = Check.townOf("one payer 0 1 1 50;" + ONE + "debt 0 1 5;");
        check.due("payers as plain ones", 1, payer.order(0));
        order(payer, 1, 0);
    }

    private void promise24Rings() {
        LetsIn x = Check.townOf(ONE + ONE + ONE + "debt 0 1 1;debt 1 0 1;");
        check.due("none", 0, x.order(0));
        order(x, -4, -4, -4);
        check.due("no best one", -4, x.shop(0));
        shop(x, -4, -4, -4);
    }

    private void promise25() {
        LetsIn x = Check.townOf(ONE + ONE + ONE + ONE + ONE + ONE + ONE);
        check.due("no ring", 0, x.rings());
        x.debt(0, 1, 1);
        x.debt(1, 2, 1);
        x.debt(3, 0, 1);
        x.debt(2, 4, 1);
        check.due("a chain", 0, x.rings());
        x.debt(2, 0, 1);
        check.due("0 1 2; 3 leads in, 4 is led to", 7, x.rings());
        x.debt(5, 6, 1);
        x.debt(6, 5, 2);
        check.due("two rings", 7 + 96, x.rings());
        x.law(1);
        check.due("law 1: not of 5 and 6", 7, x.rings());
        x.law(0);
        x.debt(2, 0, 0);
        x.debt(6, 5, 0);
        x.debt(6, 0, 1);
        x.debt(4, 5, 1);
        check.due("one long ring without 3", 127 - 8, x.rings());
        LetsIn rich = Check.townOf(ONE + "one rich 0 1 1 1;one rich 0 1 1 1;one proud 0 1 1 1;debt 1 3 5;debt 3 1 1;");
        check.due("rich ones", 6, rich.rings());
    }

    private void promise26() {
        // COST for each MINUTE: 1 stands ahead of 2 ahead of 0
        LetsIn x = Check.townOf("one plain 9 9 1 1;one plain 9 1 9 1;one plain 9 2 5 1;");
        check.due("cost", 5 * 1 + 1 * 3, x.shop(0));
        shop(x, 1, 2, 0);
        x.debt(1, 0, 1);
        check.due("cost with a debt", 2 * 1 + 9 * 11, x.shop(0));
        shop(x, 2, 0, 1);
        x.debt(2, 0, 1);
        check.due("cost with both", 9 * 9 + 5 * 10, x.shop(0));
        shop(x, 0, 1, 2);
        x.counters(2);
        check.due("always one counter", 131, x.shop(0));
    }

    private void promise26Alike() {
        LetsIn x = Check.townOf("one plain 0 2 2 1;one plain 0 1 1 1;one plain 0 3 3 1;");
        check.due("cost", 2 * 1 + 3 * 3, x.shop(0));
        shop(x, 0, 1, 2);
        x.debt(0, 2, 1);
        check.due("cost", 11, x.shop(0));
        shop(x, 1, 2, 0);
        LetsIn free = Check.townOf("one plain 0 9 0 1;one plain 0 9 0 1;debt 0 1 1;");
        check.due("costs nothing", 0, free.shop(0));
        shop(free, 1, 0);
        LetsIn first = Check.townOf("one plain 0 1 5 1;one plain 0 9 0 1;");
        check.due("costs nothing", 0, first.shop(0));
        shop(first, 0, 1);
        LetsIn seven = Check.townOf("one plain 0 7 1 1;one plain 0 6 2 1;one plain 0 5 3 1;one plain 0 4 4 1;"
                + "one plain 0 3 5 1;one plain 0 2 6 1;one plain 0 1 7 1;");
        check.due("seven", 6 * 1 + 5 * 3 + 4 * 6 + 3 * 10 + 2 * 15 + 1 * 21, seven.shop(0));
        shop(seven, 6, 5, 4, 3, 2, 1, 0);
        // a lesser town behind a greater one
        Check.tell(first, "one plain 0 9 9 1;one plain 0 9 9 1;one plain 0 9 9 1;");
        check.due("three", 81 + 162, first.shop(0));
        Check.tell(first, "one plain 0 9 9 1;one plain 0 9 9 1;");
        check.due("two", 81, first.shop(0));
        check.due("two", 2, first.order(0));
        Check.tell(first, "");
        check.due("nobody", 0, first.shop(0));
    }
}
