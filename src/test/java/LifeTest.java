/** A new object, its 512 calls, and that no object has anything of another one. */
public final class LifeTest {
    private static final int BAD = -1, STATE = -2, FULL = -3, NONE = -4;
    private static final int CALLS = 512;
    private static final String TOWN = "law 1;counters 2;one rich 9 9 9 50;one son 0 8 8 8 40;one payer 7 7 7 30;"
            + "debt 0 1 9;debt 1 2 8;debt 2 0 7;";

    private final Check check = new Check("LifeTest");

    public static void main(String[] args) {
        LifeTest test = new LifeTest();
        test.aNewObject();
        test.newBehindAnother();
        test.apart();
        test.lawsToTheLast();
        test.textsToTheLast();
        test.imagesToTheLast();
        test.sheetsToTheLast();
        test.runsToTheLast();
        test.check.finish();
    }

    private void asNew(LetsIn x) {
        int[] nobody = {x.rule(0), x.rule(1), x.fault(), x.torn(), x.all(0), x.all(1), x.all(2), x.all(3), x.day(5, 2),
            x.poor(99, 0), x.poor(99, 1), x.rings(), x.shop(0), x.forget(), x.count(0), x.count(1), x.count(2),
            x.count(3), x.count(4), x.end(0)};
        for (int i = 0; i < nobody.length; i++) {
            check.due("number " + i + " of a new object", 0, nobody[i]);
        }
        check.due("counters", 1, x.rule(2));
        check.due("orders", 1, x.order(0));
        int[] bad = {x.one(0, 0), x.owes(0, 1), x.must(0, 1), x.comes(0, 0), x.debt(0, 1, 1), x.pay(0, 1),
            x.lend(0, 1, 1), x.sell(0, 1, 2), x.served(0), x.waits(0), x.place(0, 0), x.stands(0), x.order(10),
            x.shop(10), x.clear(0, 0, 0), x.door(0, 0), x.buy(0, 0), x.see(0), x.told(0, 1), x.end(1)};
        for (int i = 0; i < bad.length; i++) {
            check.due("there is no such ONE, PLACE: " + i, BAD, bad[i]);
        }
        check.due("nobody stands there", NONE, x.row(0, 0));
        check.due("nobody is seen", NONE, x.judge());
        check.due("sheet 0 has nothing", NONE, x.count(5));
        check.due("no image", STATE, x.back(0));
        check.due("no image", STATE, x.back(1));
        for (int k = 0; k < 4; k++) {
            check.due("a sheet has nothing", -11, x.lay(k, 0, 0));
            check.due("a sheet has nothing", 0, x.read(k, 0, 0, 1));
            check.due("a sheet has nothing", 1, x.torn());
        }
    }

    private void aNewObject() {
        check.says("Nobody; SHEETS have nothing");
        asNew(new LetsIn());
    }

    private static LetsIn used() {
        LetsIn x = Check.townOf(TOWN);
        x.keep(0);
        x.keep(1);
        x.see(2);
        for (int k = 0; k < 4; k++) {
            x.sheet(k, 1, 40);
        }
        x.read(0, 0, 0, 1);
        Check.tell(x, "law 7;");
        Check.feed(x, "one");
        return x;
    }

    private void newBehindAnother() {
        check.says("a new object has nothing of one that was used");
        LetsIn x = used();
        asNew(new LetsIn());
        check.due("nor the other way: people", 3, x.rule(0));
        check.due("images", 2, x.count(3));
        check.due("cells", 40, x.count(5));
        check.due("torn", 3, x.torn());
        check.due("fault", 3, x.fault());
        check.due("tape", 3, x.count(4));
    }

    private void apart() {
        check.says("two objects, call by call in turn");
        LetsIn x = new LetsIn();
        LetsIn y = new LetsIn();
        Check.feed(x, TOWN);
        Check.feed(y, "one plain 0 1 1 1;one plain 0 1 1 1;");
        check.due("lines of x", 8, x.town());
        check.due("lines of y", 2, y.town());
        check.due("people of x", 3, x.rule(0));
        check.due("people of y", 2, y.rule(0));
        check.due("law of x", 1, x.law(0));
        check.due("law of y", 0, y.law(1));
        check.due("debt of x", 9, x.debt(0, 1, 5));
        check.due("debt of y", 0, y.debt(0, 1, 6));
        check.due("x owes", 5, x.owes(0, 1));
        check.due("y owes", 6, y.owes(0, 1));
        check.due("x keeps", 0, x.keep(0));
        check.due("y has none", STATE, y.back(0));
        check.due("x sees", 1, x.see(1));
        check.due("y sees", 1, y.see(1));
        check.due("x forgets", 1, x.forget());
        check.due("y sees one still", 1, y.count(2));
        check.due("x's sheet", 1, x.sheet(0, 2, 3));
        check.due("y's sheet", NONE, y.count(5));
        check.due("x runs", 7, x.served(2));
        check.due("y runs", 1, y.served(0));
        check.due("x still", 7, x.served(2));
    }

    private void lawsToTheLast() {
        check.says("An object is used for at most 512 calls");
        LetsIn x = new LetsIn();
        for (int call = 1; call <= CALLS; call++) {
            check.due("law, call " + call, call - 1 & 1, x.law(call & 1));
        }
    }

    private void textsToTheLast() {
        LetsIn x = new LetsIn();
        long law = Check.eights("law 1;  ")[0];
        for (int call = 2; call <= CALLS; call += 2) {
            check.due("feed, call " + (call - 1), 8, x.feed(law));
            check.due("town, call " + call, 1, x.town());
        }
        LetsIn full = new LetsIn();
        for (int call = 1; call <= CALLS; call++) {
            check.due("feed, call " + call, call <= 50 ? 8 * call : FULL, full.feed(law));
        }
    }

    private void imagesToTheLast() {
        LetsIn x = new LetsIn();
        for (int call = 4; call <= CALLS; call += 4) {
            check.due("keep, call " + (call - 3), call == 4 ? 0 : 1, x.keep(1));
            check.due("counters, call " + (call - 2), 1, x.counters(2));
            check.due("back, call " + (call - 1), 0, x.back(1));
            check.due("rule, call " + call, 1, x.rule(2));
        }
    }

    private void sheetsToTheLast() {
        LetsIn x = new LetsIn();
        for (int call = 4; call <= CALLS; call += 4) {
            check.due("sheet, call " + (call - 3), 1, x.sheet(call / 4 % 4, call % 3, 40));
            check.due("lay, call " + (call - 2), 1, x.lay(call / 4 % 4, 39, call));
            check.due("read, call " + (call - 1), 0, x.read(call / 4 % 4, call % 3, 38, 1));
            check.due("torn, call " + call, 2, x.torn());
        }
    }

    private void runsToTheLast() {
        LetsIn x = new LetsIn();
        String text = "one plain 0 9 1 50;one plain 1 1 1 50;one payer 2 1 1 50;debt 1 2 3;debt 2 1 4;";
        int used = Check.eights(text).length + 2;
        check.due("lines", 5, Check.tell(x, text));
        for (int call = used + 4; call <= CALLS; call += 4) {
            check.due("served, call " + (call - 3), 10, x.served(1));
            check.due("door, call " + (call - 2), NONE, x.door(2, 0));
            check.due("clear, call " + (call - 1), 3, x.clear(1, 9, 0));
            check.due("shop, call " + call, NONE, x.shop(0));
        }
    }
}
