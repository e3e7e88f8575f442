/** The edges of ORDERS, RINGS, THE BEST ORDER, of nobody and of seven, sentence by sentence. */
public final class OrderEdgesTest {
    private static final int BAD = -1, STATE = -2, NONE = -4;
    private static final String ONE = "one plain 0 1 1 1;";

    private final Check check = new Check("OrderEdgesTest");

    public static void main(String[] args) {
        OrderEdgesTest test = new OrderEdgesTest();
        test.anyOrder();
        test.chains();
        test.noOrder();
        test.kinds();
        test.rings();
        test.ringsByKinds();
        test.notInARing();
        test.best();
        test.bestOfSeveral();
        test.bestWhatever();
        test.nobody();
        test.seven();
        test.check.finish();
    }

    private void orders(LetsIn x, int number, int... first) {
        check.due("order(0)", number, x.order(0));
        for (int i = 0; i < first.length; i++) {
            check.due("order(1" + i + ")", first[i], x.order(10 + i));
        }
        check.due("behind the last", BAD, x.order(10 + first.length));
    }

    private void shop(LetsIn x, int cost, int... best) {
        check.due("shop(0)", cost, x.shop(0));
        for (int i = 0; i < best.length; i++) {
            check.due("shop(1" + i + ")", best[i], x.shop(10 + i));
        }
        check.due("behind the last", BAD, x.shop(10 + best.length));
    }

    private static int[] byNumbers(int people) {
        int[] first = new int[people];
        for (int p = 0; p < people; p++) {
            first[p] = p;
        }
        return first;
    }

    private void anyOrder() {
        check.says("ORDERS: how many; 10 and i: the ONE at PLACE i in the first one by ONES");
        int ways = 1;
        for (int people = 0; people <= 7; people++) {
            ways *= Math.max(1, people);
            orders(Check.townOf(ONE.repeat(people)), ways, byNumbers(people));
        }
        check.says("all there at once");
        orders(Check.townOf("one plain 9 1 1 1;one plain 5 1 1 1;"), 2, 0, 1);
    }

    private void chains() {
        check.says("if a MUST let in b, b stands ahead of a");
        for (int people = 2; people <= 7; people++) {
            LetsIn up = Check.townOf(ONE.repeat(people));
            LetsIn down = Check.townOf(ONE.repeat(people));
            int[] back = new int[people];
            for (int p = 0; p + 1 < people; p++) {
                up.debt(p + 1, p, 1);
                down.debt(p, p + 1, 1);
            }
            for (int p = 0; p < people; p++) {
                back[p] = people - 1 - p;
            }
            orders(up, 1, byNumbers(people));
            orders(down, 1, back);
        }
        LetsIn x = Check.townOf(ONE.repeat(3));
        x.debt(0, 2, 1);
        orders(x, 3, 1, 2, 0);
        x.debt(1, 2, 1);
        orders(x, 2, 2, 0, 1);
        x.debt(0, 1, 1);
        orders(x, 1, 2, 1, 0);
        check.says("payers as plain ones");
        orders(Check.townOf("one payer 0 1 1 50;" + ONE + "debt 0 1 1;"), 1, 1, 0);
    }

    private void noOrder() {
        check.says("ORDERS: 0; NONE (10 and i): there is none");
        LetsIn x = Check.townOf(ONE.repeat(3) + "debt 1 2 5;debt 2 1 4;");
        orders(x, 0, NONE, NONE, NONE);
        check.says("shop: NONE: there is no ORDER");
        shop(x, NONE, NONE, NONE, NONE);
        check.says("by LAW 1 only one of two MUST");
        x.law(1);
        orders(x, 3, 0, 2, 1);
        shop(x, 3, 0, 2, 1);
        x.debt(2, 1, 5);
        orders(x, 6, 0, 1, 2);
        check.says("then there is one again");
        x.law(0);
        orders(x, 0, NONE, NONE, NONE);
        x.debt(2, 1, 0);
        orders(x, 3, 0, 2, 1);
    }

    private void kinds() {
        check.says("a rich one stands ahead of all; of two there is no ORDER");
        orders(Check.townOf(ONE + ONE + "one rich 0 1 1 1;"), 2, 2, 0, 1);
        orders(Check.townOf(ONE + "one rich 0 1 1 1;one rich 0 1 1 1;"), 0, NONE, NONE, NONE);
        orders(Check.townOf("one rich 0 1 1 1;" + ONE + "debt 0 1 1;"), 0, NONE, NONE);
        orders(Check.townOf("one rich 0 1 1 1;one proud 0 1 1 1;debt 0 1 1;"), 1, 0, 1);
        check.says("proud ones stand anywhere");
        orders(Check.townOf(ONE + "one proud 0 1 1 1;debt 0 1 9;"), 2, 0, 1);
        orders(Check.townOf(ONE + "one proud 0 1 1 1;debt 1 0 9;"), 1, 0, 1);
        check.says("a son stands behind whom his FATHER OWES");
        orders(Check.townOf("one son 1 0 1 1 1;" + ONE + ONE + "debt 1 2 1;"), 2, 2, 0, 1);
    }

    private void rings() {
        check.says("A RING: ONES, two at least");
        for (int people = 2; people <= 7; people++) {
            LetsIn x = Check.townOf(ONE.repeat(people));
            check.due("none of " + people, 0, x.rings());
            for (int p = 0; p + 1 < people; p++) {
                x.debt(p, p + 1, 1);
            }
            check.due("a chain of " + people, 0, x.rings());
            check.due("orders", 1, x.order(0));
            x.debt(people - 1, 0, 1);
            check.due("a ring of " + people, (1 << people) - 1, x.rings());
            check.due("orders", 0, x.order(0));
            x.debt(0, 1, 0);
            check.due("broken", 0, x.rings());
        }
        check.due("one alone", 0, Check.townOf("one rich 0 1 1 1;").rings());
    }

    private void ringsByKinds() {
        check.says("each of whom MUST let in another one of them");
        check.due("two rich ones", 3, Check.townOf("one rich 0 1 1 1;one rich 0 1 1 1;").rings());
        check.due("a rich one who owes", 6, Check.townOf(ONE + "one rich 0 1 1 1;" + ONE + "debt 1 2 1;").rings());
        check.due("a rich one who owes a proud one", 0,
                Check.townOf(ONE + "one rich 0 1 1 1;one proud 0 1 1 1;debt 1 2 1;").rings());
        check.due("payers as plain ones", 3,
                Check.townOf("one payer 0 1 1 50;one payer 0 1 1 50;debt 0 1 1;debt 1 0 1;").rings());
        // 2 is a son of 0, who owes 1; 1 owes 2
        check.due("by a father's debt", 6, Check.townOf(ONE + ONE + "one son 0 0 1 1 1;debt 0 1 1;debt 1 2 1;").rings());
        LetsIn x = Check.townOf(ONE + ONE + ONE + "debt 0 1 5;debt 1 0 5;debt 1 2 1;debt 2 0 1;");
        check.due("law 0", 7, x.rings());
        x.law(1);
        check.due("law 1: 0 and 1 are even", 0, x.rings());
        x.debt(0, 1, 6);
        check.due("law 1: round by 0, 1, 2", 7, x.rings());
        x.debt(0, 1, 4);
        check.due("law 1: 1 lets in 0, not round", 0, x.rings());
    }

    private void notInARing() {
        check.says("round and round to himself: those who are in one");
        LetsIn x = Check.townOf(ONE.repeat(7) + "debt 0 1 1;debt 1 2 1;debt 2 1 1;debt 2 3 1;debt 4 5 1;debt 5 4 1;"
                + "debt 3 4 1;debt 5 6 1;");
        // 0 leads to a ring, 3 from one to the other, 6 is led to
        check.due("two rings", 2 + 4 + 16 + 32, x.rings());
        x.debt(6, 1, 1);
        check.due("all but the first", 126, x.rings());
    }

    private void best() {
        check.says("the least COST of all (each his COST times the MINUTES until he is taken)");
        shop(Check.townOf("one plain 0 9 9 1;"), 0, 0);
        shop(Check.townOf("one plain 0 9 1 1;one plain 0 1 9 1;"), 1, 1, 0);
        shop(Check.townOf("one plain 0 9 1 1;one plain 0 1 9 1;debt 1 0 1;"), 81, 0, 1);
        shop(Check.townOf("one plain 0 9 9 1;".repeat(7)), 81 * 21, byNumbers(7));
        shop(Check.townOf("one plain 0 9 0 1;".repeat(7)), 0, byNumbers(7));
        // the dear one stands behind one who costs nothing, as he must
        shop(Check.townOf("one plain 0 1 9 1;one plain 0 9 0 1;one plain 0 5 5 1;debt 0 1 1;"), 9 * 14, 2, 1, 0);
        shop(Check.townOf("one plain 0 1 9 1;one plain 0 9 0 1;one plain 0 6 5 1;debt 0 1 1;"), 9 * 9 + 5 * 10, 1, 0, 2);
    }

    private void bestOfSeveral() {
        check.says("of several the first by ONES");
        shop(Check.townOf("one plain 0 2 2 1;one plain 0 1 1 1;one plain 0 3 3 1;"), 2 * 3 + 5, 0, 1, 2);
        shop(Check.townOf("one plain 0 2 2 1;one plain 0 1 1 1;one plain 0 3 3 1;debt 0 1 1;"), 11, 1, 0, 2);
        shop(Check.townOf("one plain 0 2 2 1;one plain 0 1 1 1;one plain 0 3 3 1;debt 1 2 1;"), 11, 0, 2, 1);
        shop(Check.townOf("one plain 0 5 0 1;one plain 0 5 0 1;one plain 0 5 0 1;debt 0 2 1;"), 0, 1, 2, 0);
        shop(Check.townOf("one plain 0 5 5 1;one plain 0 9 9 1;"), 45, 0, 1);
        shop(Check.townOf("one plain 0 9 9 1;one plain 0 5 5 1;"), 45, 0, 1);
    }

    private void bestWhatever() {
        check.says("all there in MINUTE 0, one COUNTER");
        LetsIn x = Check.townOf("counters 2;one plain 60 9 1 1;one plain 50 1 9 1;one plain 0 5 0 1;");
        shop(x, 1, 1, 0, 2);
        x.counters(1);
        shop(x, 1, 1, 0, 2);
        x.comes(0, 0);
        shop(x, 1, 1, 0, 2);
        check.says("payers as plain ones");
        shop(Check.townOf("one payer 0 1 9 50;one plain 0 9 1 1;debt 0 1 1;"), 81, 1, 0);
    }

    private void nobody() {
        check.says("nobody there");
        LetsIn x = new LetsIn();
        orders(x, 1);
        shop(x, 0);
        check.due("rings", 0, x.rings());
        check.due("stands", BAD, x.stands(0));
        check.due("judge", NONE, x.judge());
        check.due("forget", 0, x.forget());
        check.due("see", BAD, x.see(0));
        check.due("served", BAD, x.served(0));
        check.due("poor", 0, x.poor(99, 0));
        for (int t = 0; t <= 130; t += 130) {
            check.due("row", NONE, x.row(t, 0));
            check.due("row", NONE, x.row(t, 6));
        }
        check.due("law", 0, x.law(1));
        check.due("counters", 1, x.counters(2));
        check.due("back", STATE, x.back(0));
        check.due("keep", 0, x.keep(0));
        check.due("law", 1, x.law(0));
        check.due("back", 0, x.back(0));
        check.due("law", 1, x.rule(1));
        check.due("counters", 2, x.rule(2));
        x.sheet(0, 0, 3);
        x.lay(0, 1, 1);
        check.due("read: no debt can be", -20, x.read(0, 0, 0, 1));
        check.says("nobody there, behind a town without an ORDER");
        Check.tell(x, "one rich 0 1 1 1;one rich 0 1 1 1;one rich 0 1 1 1;");
        shop(x, NONE, NONE, NONE, NONE);
        orders(x, 0, NONE, NONE, NONE);
        check.due("rings", 7, x.rings());
        Check.tell(x, "");
        shop(x, 0);
        orders(x, 1);
        check.due("rings", 0, x.rings());
    }

    private void seven() {
        check.says("7 at most: the last of seven, too");
        LetsIn x = Check.townOf("one plain 6 1 1 9;one plain 5 1 1 9;one plain 4 1 1 9;one plain 3 1 1 9;"
                + "one plain 2 1 1 9;one plain 1 9 1 9;one plain 0 9 1 9;debt 0 6 9;debt 6 0 8;");
        int[] served = {22, 21, 20, 19, 18, 9, 0};
        for (int p = 0; p < 7; p++) {
            check.due("served(" + p + ")", served[p], x.served(p));
            check.due("stands(" + p + ")", 6 - p, x.stands(p));
            check.due("see(" + p + ")", p + 1, x.see(p));
        }
        check.due("is seen", STATE, x.see(6));
        check.due("judge", 0, x.judge());
        check.due("waiting behind 8", 5, x.row(8, 0));
        check.due("waiting behind 8", 0, x.row(8, 5));
        check.due("nobody more", NONE, x.row(8, 6));
        check.due("pay", 8, x.pay(6, 0));
        check.due("pay", 9, x.pay(0, 6));
        check.due("coins", 10, x.one(6, 4));
        check.due("lend", 10, x.lend(6, 5, 10));
        check.due("sell", 10, x.sell(5, 6, 0));
        check.due("owes", 10, x.owes(5, 0));
        check.due("door", NONE, x.door(6, 0));
        check.due("keep", 0, x.keep(1));
        check.due("back", 7, x.back(1));
        check.due("forget", 7, x.forget());
    }
}
