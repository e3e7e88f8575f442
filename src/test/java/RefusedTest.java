import java.util.ArrayList;
import java.util.List;
import java.util.function.Function;
import java.util.function.ToIntFunction;

/**
 * "The first that fits; what is refused changes nothing (but THE TAPE, as told)." An object with something of everything
 * is made anew for each refused call; all that can be asked of it is then as without that call.
 */
public final class RefusedTest {
    private static final int BAD = -1, STATE = -2, FULL = -3, NONE = -4;
    private static final int NULL = -11, INDEX = -12, SIZE = -14;
    private static final String TOWN = "law 1;counters 2;one plain 0 5 1 9;one payer 1 3 2 12;one proud 2 4 3 7;"
            + "one rich 2 2 4 0;one son 0 3 1 5 50;one plain 4 6 6 30;debt 0 1 7;debt 1 0 20;debt 4 1 9;debt 5 4 3;";

    private final Check check = new Check("RefusedTest");
    private final List<Function<LetsIn, String>> looks = new ArrayList<>();

    public static void main(String[] args) {
        RefusedTest test = new RefusedTest();
        test.prepare();
        test.ofTheText();
        test.ofChanges();
        test.ofTheRun();
        test.ofOrders();
        test.ofAdvice();
        test.ofTheSeen();
        test.ofImagesAndSheets();
        test.aTownThatIsRefused();
        test.questionsChangeNothing();
        test.check.finish();
    }

    /** IMAGE 0 is as told, the town is not; IMAGE 1 is none; SHEET 1 is nothing, 2 has no CELLS; 0 OWES 5 998. */
    private static LetsIn made() {
        LetsIn x = new LetsIn();
        Check.tell(x, TOWN);
        x.keep(0);
        x.comes(5, 9);
        for (int i = 0; i < 10; i++) {
            x.debt(0, 2, 99);
            x.sell(0, 2, 5);
        }
        x.debt(0, 2, 8);
        x.sell(0, 2, 5);
        x.debt(0, 2, 2);
        x.law(0);
        x.see(4);
        x.see(0);
        x.see(1);
        x.sheet(0, 0, 7);
        x.sheet(2, 2, 0);
        x.sheet(3, 1, 9);
        int[] cells = {2, 4, 11, 5, 5, 9, 0, 4, 1};
        for (int i = 0; i < 9; i++) {
            x.lay(3, i, cells[i]);
            x.lay(0, i, cells[i]);
        }
        x.read(0, 0, 6, 1);
        Check.tell(x, "law 2;");
        Check.feed(x, "law 1;one plain 7 7 7 7;");
        return x;
    }

    private void prepare() {
        looks.add(RefusedTest::asked);
        looks.add(RefusedTest::seenAndCounted);
        looks.add(x -> x.back(0) + asked(x) + seenAndCounted(x));
        looks.add(x -> x.back(1) + " " + x.count(3));
        looks.add(x -> x.town() + " " + x.fault() + asked(x) + seenAndCounted(x));
        for (int k = 0; k < 4; k++) {
            int of = k;
            looks.add(x -> x.read(of, 0, 0, 1) + " " + x.torn() + " " + x.read(of, 1, 0, 1) + " " + x.torn() + " "
                    + x.read(of, 2, 0, 1) + " " + x.torn() + asked(x));
            looks.add(x -> x.read(of, 1, 3, 1) + " " + x.read(of, 1, 6, 1) + " " + x.torn() + asked(x));
        }
    }

    private static String asked(LetsIn x) {
        StringBuilder all = new StringBuilder();
        for (int what = 0; what < 3; what++) {
            all.append(' ').append(x.rule(what));
        }
        for (int p = 0; p < 7; p++) {
            for (int what = 0; what < 6; what++) {
                all.append(' ').append(x.one(p, what));
            }
            for (int q = 0; q < 7; q++) {
                all.append(' ').append(x.owes(p, q));
            }
        }
        return all.append(" fault ").append(x.fault()).append(" torn ").append(x.torn()).toString();
    }

    private static String seenAndCounted(LetsIn x) {
        StringBuilder all = new StringBuilder(" seen");
        for (int p = 0; p < 7; p++) {
            for (int q = 0; q < 7; q++) {
                all.append(' ').append(x.told(p, q));
            }
        }
        all.append(" judge ").append(x.judge()).append(" count");
        for (int what = 0; what < 6; what++) {
            all.append(' ').append(x.count(what));
        }
        return all.toString();
    }

    private void refused(String call, int want, ToIntFunction<LetsIn> of) {
        check.due(call, want, of.applyAsInt(made()));
        stays(call, of);
    }

    private void stays(String call, ToIntFunction<LetsIn> of) {
        for (Function<LetsIn, String> look : looks) {
            LetsIn x = made();
            of.applyAsInt(x);
            String then = look.apply(x);
            String due = look.apply(made());
            check.holds("behind " + call + ": " + then + ", due is " + due, then.equals(due));
        }
    }

    private void ofTheText() {
        refused("end(-1)", BAD, x -> x.end(-1));
        refused("end(25)", BAD, x -> x.end(25));
        refused("rule(3)", BAD, x -> x.rule(3));
        refused("one(6, 0)", BAD, x -> x.one(6, 0));
        refused("one(0, 6)", BAD, x -> x.one(0, 6));
        refused("one(0, 5)", NONE, x -> x.one(0, 5));
        refused("one(6, 5): BAD ahead of NONE", BAD, x -> x.one(6, 5));
        refused("owes(1, 1)", BAD, x -> x.owes(1, 1));
        refused("must(1, 6)", BAD, x -> x.must(1, 6));
        LetsIn x = made();
        for (int i = 4; i <= 50; i++) {
            check.due("feed", 8 * i, x.feed(0x2020202020202020L));
        }
        check.due("feed more than 400", FULL, x.feed(0));
        check.due("feed more than 400", FULL, x.feed(-1));
        check.due("the tape stays", 400, x.count(4));
        check.due("and what is on it", 2, x.town());
        check.due("is told", 7, x.one(0, 4));
    }

    private void ofChanges() {
        refused("law(2)", BAD, x -> x.law(2));
        refused("law(-1)", BAD, x -> x.law(-1));
        refused("counters(0)", BAD, x -> x.counters(0));
        refused("counters(3)", BAD, x -> x.counters(3));
        refused("comes(6, 0)", BAD, x -> x.comes(6, 0));
        refused("comes(0, 61)", BAD, x -> x.comes(0, 61));
        refused("comes(0, -1)", BAD, x -> x.comes(0, -1));
        refused("debt(0, 0, 1)", BAD, x -> x.debt(0, 0, 1));
        refused("debt(0, 6, 1)", BAD, x -> x.debt(0, 6, 1));
        refused("debt(6, 0, 1)", BAD, x -> x.debt(6, 0, 1));
        refused("debt(0, 1, 100)", BAD, x -> x.debt(0, 1, 100));
        refused("debt(0, 1, -1)", BAD, x -> x.debt(0, 1, -1));
        refused("pay(0, 0)", BAD, x -> x.pay(0, 0));
        refused("pay(1, 6)", BAD, x -> x.pay(1, 6));
        refused("pay(0, 3): nothing", NONE, x -> x.pay(0, 3));
        refused("pay(1, 0): has 12, owes 20", STATE, x -> x.pay(1, 0));
        refused("pay(3, 1): has none, owes none", NONE, x -> x.pay(3, 1));
        refused("lend(0, 0, 1)", BAD, x -> x.lend(0, 0, 1));
        refused("lend(5, 0, 0)", BAD, x -> x.lend(5, 0, 0));
        refused("lend(4, 0, 51): BAD ahead of STATE", BAD, x -> x.lend(4, 0, 51));
        refused("lend(5, 6, 31)", BAD, x -> x.lend(5, 6, 31));
        refused("lend(5, 1, 31): has 30", STATE, x -> x.lend(5, 1, 31));
        refused("lend(5, 0, 31): STATE ahead of FULL", STATE, x -> x.lend(5, 0, 31));
        refused("lend(5, 0, 2): he would owe 1000", FULL, x -> x.lend(5, 0, 2));
        refused("lend(5, 0, 30): he would owe 1028", FULL, x -> x.lend(5, 0, 30));
        refused("sell(0, 0, 1)", BAD, x -> x.sell(0, 0, 1));
        refused("sell(0, 1, 1)", BAD, x -> x.sell(0, 1, 1));
        refused("sell(0, 1, 6)", BAD, x -> x.sell(0, 1, 6));
        refused("sell(0, 3, 3): BAD ahead of NONE", BAD, x -> x.sell(0, 3, 3));
        refused("sell(0, 3, 6): BAD ahead of NONE", BAD, x -> x.sell(0, 3, 6));
        refused("sell(0, 3, 1): nothing", NONE, x -> x.sell(0, 3, 1));
        refused("sell(0, 3, 0): nothing", NONE, x -> x.sell(0, 3, 0));
        refused("sell(0, 3, 5): nothing to 998", NONE, x -> x.sell(0, 3, 5));
        refused("sell(0, 2, 5): 1000", FULL, x -> x.sell(0, 2, 5));
        refused("sell(0, 1, 5): 1005", FULL, x -> x.sell(0, 1, 5));
    }

    private void ofTheRun() {
        refused("served(6)", BAD, x -> x.served(6));
        refused("waits(-1)", BAD, x -> x.waits(-1));
        refused("place(6, 0)", BAD, x -> x.place(6, 0));
        refused("place(0, 131)", BAD, x -> x.place(0, 131));
        refused("place(0, 130)", NONE, x -> x.place(0, 130));
        refused("place(6, 130): BAD ahead of NONE", BAD, x -> x.place(6, 130));
        refused("row(131, 0)", BAD, x -> x.row(131, 0));
        refused("row(130, 7): BAD ahead of NONE", BAD, x -> x.row(130, 7));
        refused("row(130, 6)", NONE, x -> x.row(130, 6));
        refused("all(4)", BAD, x -> x.all(4));
        refused("poor(100, 0)", BAD, x -> x.poor(100, 0));
        refused("poor(0, 2)", BAD, x -> x.poor(0, 2));
        refused("day(1, 4)", BAD, x -> x.day(1, 4));
    }

    private void ofOrders() {
        check.due("there is no order", 0, made().order(0));
        refused("stands(6)", BAD, x -> x.stands(6));
        refused("order(9)", BAD, x -> x.order(9));
        refused("order(16): BAD ahead of NONE", BAD, x -> x.order(16));
        refused("order(15): there is none", NONE, x -> x.order(15));
        refused("shop(9): BAD ahead of NONE", BAD, x -> x.shop(9));
        refused("shop(16): BAD ahead of NONE", BAD, x -> x.shop(16));
        refused("shop(15): there is none", NONE, x -> x.shop(15));
        refused("shop(0): there is none", NONE, x -> x.shop(0));
    }

    private void ofAdvice() {
        refused("clear(6, 0, 0): BAD ahead of NONE", BAD, x -> x.clear(6, 0, 0));
        refused("clear(5, 131, 0)", BAD, x -> x.clear(5, 131, 0));
        refused("clear(5, 0, 2): BAD ahead of NONE", BAD, x -> x.clear(5, 0, 2));
        refused("clear(5, 0, 0): he comes later", NONE, x -> x.clear(5, 0, 0));
        refused("clear(5, 0, 1): he comes later", NONE, x -> x.clear(5, 0, 1));
        refused("door(6, 0)", BAD, x -> x.door(6, 0));
        refused("door(3, 3): BAD ahead of NONE", BAD, x -> x.door(3, 3));
        refused("door(3, 0): he has no coins", NONE, x -> x.door(3, 0));
        refused("buy(6, 0)", BAD, x -> x.buy(6, 0));
        refused("buy(3, 3): BAD ahead of NONE", BAD, x -> x.buy(3, 3));
        refused("buy(3, 2): he has no coins", NONE, x -> x.buy(3, 2));
    }

    private void ofTheSeen() {
        refused("see(6)", BAD, x -> x.see(6));
        refused("see(-1)", BAD, x -> x.see(-1));
        refused("see(4): is seen, the first", STATE, x -> x.see(4));
        refused("see(1): is seen, the last", STATE, x -> x.see(1));
        refused("told(0, 0): BAD ahead of NONE", BAD, x -> x.told(0, 0));
        refused("told(0, 6): BAD ahead of NONE", BAD, x -> x.told(0, 6));
        refused("told(0, 2): 2 is not seen", NONE, x -> x.told(0, 2));
    }

    private void ofImagesAndSheets() {
        refused("keep(2)", BAD, x -> x.keep(2));
        refused("keep(-1)", BAD, x -> x.keep(-1));
        refused("back(2): BAD ahead of STATE", BAD, x -> x.back(2));
        refused("back(-1)", BAD, x -> x.back(-1));
        refused("back(1): there is none", STATE, x -> x.back(1));
        refused("sheet(4, 0, 1)", BAD, x -> x.sheet(4, 0, 1));
        refused("sheet(3, 3, 1)", BAD, x -> x.sheet(3, 3, 1));
        refused("sheet(3, -1, 1)", BAD, x -> x.sheet(3, -1, 1));
        refused("sheet(3, 2, 41)", BAD, x -> x.sheet(3, 2, 41));
        refused("sheet(4, 2, -1): BAD ahead of SIZE", BAD, x -> x.sheet(4, 2, -1));
        refused("sheet(3, 3, -1): BAD ahead of SIZE", BAD, x -> x.sheet(3, 3, -1));
        refused("sheet(3, 2, -1)", SIZE, x -> x.sheet(3, 2, -1));
        refused("sheet(1, 2, -1): it is nothing still", SIZE, x -> x.sheet(1, 2, -1));
        refused("lay(4, 0, 1)", BAD, x -> x.lay(4, 0, 1));
        refused("lay(1, 0, 1)", NULL, x -> x.lay(1, 0, 1));
        refused("lay(1, -1, 1): NULL ahead of INDEX", NULL, x -> x.lay(1, -1, 1));
        refused("lay(2, 0, 1): no cells", INDEX, x -> x.lay(2, 0, 1));
        refused("lay(3, 9, 1)", INDEX, x -> x.lay(3, 9, 1));
        refused("lay(3, -1, 1)", INDEX, x -> x.lay(3, -1, 1));
        refused("read(4, 1, 0, 1)", BAD, x -> x.read(4, 1, 0, 1));
        refused("read(3, 3, 0, 1)", BAD, x -> x.read(3, 3, 0, 1));
        refused("read(3, 1, 0, 14)", BAD, x -> x.read(3, 1, 0, 14));
        refused("read(3, 1, 0, -1)", BAD, x -> x.read(3, 1, 0, -1));
        refused("read(1, 3, 0, 1): BAD ahead of a fault", BAD, x -> x.read(1, 3, 0, 1));
        refused("read(3, 1, 0, 3): debt 1 is BAD", -21, x -> x.read(3, 1, 0, 3));
        refused("read(3, 1, 0, 13): debt 1 is BAD ahead of INDEX", -21, x -> x.read(3, 1, 0, 13));
        refused("read(3, 1, 3, 1): debt 0 is BAD", -20, x -> x.read(3, 1, 3, 1));
        refused("count(6)", BAD, x -> x.count(6));
        refused("count(-1)", BAD, x -> x.count(-1));
    }

    /** -10 less the place of its FAULT: that which was told stays; THE TAPE is empty then. */
    private void aTownThatIsRefused() {
        String[] faulty = {"$", "law 1;one", "law 3;", "law 1;law 0;", "counters 1;counters 1;", "one son 0 1 1 1 1;",
            "debt 1 1 1;", "debt 1 0 1;debt 1 0 1;", TOWN + "one plain 1 1 1 1;one plain 1 1 1 1;", "debt 0 1 1;"};
        int[] faults = {1, 2, 3, 4, 4, 4, 4, 4, 5, 6};
        for (int i = 0; i < faulty.length; i++) {
            LetsIn x = made();
            x.end(0);
            int answer = Check.tell(x, faulty[i]);
            check.holds(faulty[i] + " answered " + answer, answer <= -10);
            check.due("its fault", faults[i], x.fault());
            check.due("the tape is empty", 0, x.count(4));
            LetsIn y = made();
            y.end(0);
            Check.tell(y, "law 2;");
            check.holds("the rest stays", withoutFault(x).equals(withoutFault(y)));
            check.due("so does image 0", 6, x.back(0));
            check.due("so does image 0", 6, y.back(0));
            check.holds("with all it has", withoutFault(x).equals(withoutFault(y)));
        }
    }

    private static String withoutFault(LetsIn x) {
        return asked(x).replaceAll(" fault \\d", "") + seenAndCounted(x);
    }

    private void questionsChangeNothing() {
        for (int p = 0; p < 6; p++) {
            int q = p;
            stays("one", x -> x.one(q, 0));
            stays("must", x -> x.must(q, (q + 1) % 6));
            stays("served", x -> x.served(q));
            stays("waits", x -> x.waits(q));
            stays("place", x -> x.place(q, 3));
            stays("row", x -> x.row(q, 0));
            stays("stands", x -> x.stands(q));
            stays("clear", x -> x.clear(q, 9, 1));
            stays("door", x -> x.door(q, 0));
            stays("buy", x -> x.buy(q, 0));
        }
        for (int what = 0; what < 4; what++) {
            int of = what;
            stays("all", x -> x.all(of));
            stays("day", x -> x.day(99, of));
            stays("poor", x -> x.poor(9, of & 1));
        }
        stays("order", x -> x.order(0));
        stays("rings", LetsIn::rings);
        stays("shop", x -> x.shop(0));
        stays("judge", LetsIn::judge);
        stays("fault", LetsIn::fault);
        stays("torn", LetsIn::torn);
        stays("count", x -> x.count(1));
    }
}
