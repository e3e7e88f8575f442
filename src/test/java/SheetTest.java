/** Promises 35 to 41: IMAGES, SHEETS, how many. */
public final class SheetTest {
    private static final String THREE = "one plain 0 1 1 10;one plain 1 2 3 20;one plain 1 1 1 30;";

    private final Check check = new Check("SheetTest");

    public static void main(String[] args) {
        SheetTest test = new SheetTest();
        test.promise35and36();
        test.promise37();
        test.promise38();
        test.promise39();
        test.promise39Bad();
        test.promise39Torn();
        test.promise39None();
        test.promise40();
        test.promise41();
        test.check.finish();
    }

    private void promise35and36() {
        LetsIn x = Check.townOf(THREE + "debt 0 1 5;");
        check.due("none", -2, x.back(0));
        check.due("none", -2, x.back(1));
        check.due("no such image", -1, x.keep(2));
        check.due("no such image", -1, x.keep(-1));
        check.due("no such image", -1, x.back(2));
        check.due("no such image", -1, x.back(-1));
        check.due("keep", 0, x.keep(1));
        x.law(1);
        x.counters(2);
        x.comes(1, 60);
        x.pay(0, 1);
        x.debt(2, 0, 9);
        check.due("keep", 0, x.keep(0));
        check.due("keep again", 1, x.keep(0));
        check.due("back", 3, x.back(1));
        check.due("law", 0, x.rule(1));
        check.due("counters", 1, x.rule(2));
        check.due("comes", 1, x.one(1, 1));
        check.due("coins", 10, x.one(0, 4));
        check.due("debt", 5, x.owes(0, 1));
        check.due("debt", 0, x.owes(2, 0));
        x.debt(0, 1, 77);
        check.due("the image stays as it was", 3, x.back(1));
        check.due("debt", 5, x.owes(0, 1));
        check.due("back to the other", 3, x.back(0));
        check.due("law", 1, x.rule(1));
        check.due("counters", 2, x.rule(2));
        check.due("comes", 60, x.one(1, 1));
        check.due("coins", 5, x.one(0, 4));
        check.due("debt", 9, x.owes(2, 0));
    }

    private void promise37() {
        LetsIn x = new LetsIn();
        check.due("sheet", 1, x.sheet(0, 0, 40));
        check.due("cells", 40, x.count(5));
        check.due("no cells", 1, x.sheet(0, 1, 0));
        check.due("cells", 0, x.count(5));
        check.due("41", -1, x.sheet(0, 2, 41));
        check.due("no lane", -1, x.sheet(0, 3, 1));
        check.due("no lane", -1, x.sheet(0, -1, 1));
        check.due("no sheet", -1, x.sheet(4, 0, 1));
        check.due("no sheet", -1, x.sheet(-1, 0, 1));
        check.due("no sheet, ahead of size", -1, x.sheet(4, 0, -1));
        check.due("no lane, ahead of size", -1, x.sheet(0, 3, -1));
        check.due("size", -14, x.sheet(0, 2, -1));
        check.due("size", -14, x.sheet(0, 2, Integer.MIN_VALUE));
        check.due("what is refused changes nothing", 0, x.count(5));
        check.due("still nothing", -14, x.sheet(1, 2, -1));
        check.due("still nothing", -11, x.lay(1, 0, 0));
        LetsIn y = Check.townOf(THREE + "debt 0 1 5;");
        y.sheet(1, 0, 3);
        lay(y, 1, 2, 1, 50);
        y.sheet(1, 0, 3);
        check.due("its cells are 0: 0 would owe himself", -20, y.read(1, 0, 0, 1));
        y.lay(1, 1, 1);
        check.due("read", 1, y.read(1, 0, 0, 1));
        check.due("its cells are 0", 0, y.owes(0, 1));
        check.due("its cells are 0", 0, y.owes(2, 1));
        y.sheet(1, 1, 3);
        y.lay(1, 1, 1);
        check.due("another lane now", 0, y.read(1, 0, 0, 1));
        check.due("cast", 3, y.torn());
    }

    private void promise38() {
        LetsIn x = new LetsIn();
        check.due("null", -11, x.lay(2, 0, 0));
        check.due("null ahead of index", -11, x.lay(2, 99, 0));
        check.due("no sheet", -1, x.lay(4, 0, 0));
        check.due("no sheet", -1, x.lay(-1, 0, 0));
        x.sheet(2, 2, 3);
        check.due("lay", 1, x.lay(2, 0, 5));
        check.due("lay", 1, x.lay(2, 2, Integer.MIN_VALUE));
        check.due("index", -12, x.lay(2, 3, 0));
        check.due("index", -12, x.lay(2, -1, 0));
        check.due("index", -12, x.lay(2, Integer.MAX_VALUE, 0));
        x.sheet(2, 2, 0);
        check.due("no cells", -12, x.lay(2, 0, 0));
        lowestBits(0, 256 + 7, 7);
        lowestBits(0, 128, -20);
        lowestBits(0, -256 + 99, 99);
        lowestBits(1, 65536 + 7, 7);
        lowestBits(1, 32768, -20);
        lowestBits(1, 256 + 7, -20);
        lowestBits(2, 65536 + 7, -20);
        lowestBits(2, 99, 99);
    }

    /** A DEBT of what a CELL has, or -20 where it can be none. */
    private void lowestBits(int lane, int v, int want) {
        LetsIn x = Check.townOf(THREE);
        x.sheet(3, lane, 3);
        x.lay(3, 1, 1);
        x.lay(3, 2, v);
        int came = x.read(3, lane, 0, 1);
        check.due("lane " + lane + " " + v, want, came == 1 ? x.owes(0, 1) : came);
    }

    private static void lay(LetsIn x, int k, int... cells) {
        for (int i = 0; i < cells.length; i++) {
            x.lay(k, i, cells[i]);
        }
    }

    private void promise39() {
        for (int lane = 0; lane < 3; lane++) {
            LetsIn x = Check.townOf(THREE + "debt 2 0 50;");
            x.sheet(1, lane, 40);
            lay(x, 1, 9, 0, 1, 5, 1, 2, 6, 2, 0, 0, 0, 1, 7);
            check.due("none", 0, x.read(1, lane, 1, 0));
            check.due("three", 3, x.read(1, lane, 1, 3));
            check.due("owes", 5, x.owes(0, 1));
            check.due("owes", 6, x.owes(1, 2));
            check.due("nothing more", 0, x.owes(2, 0));
            check.due("four: the last counts", 4, x.read(1, lane, 1, 4));
            check.due("owes", 7, x.owes(0, 1));
            check.due("torn", 0, x.torn());
            check.due("coins stay", 10, x.one(0, 4));
        }
        LetsIn y = Check.townOf(THREE);
        y.sheet(0, 0, 39);
        for (int i = 0; i < 13; i++) {
            y.lay(0, 3 * i + 1, 1 + i % 2);
            y.lay(0, 3 * i + 2, i);
        }
        check.due("thirteen", 13, y.read(0, 0, 0, 13));
        check.due("owes", 12, y.owes(0, 1));
        check.due("owes", 11, y.owes(0, 2));
        check.due("fourteen", -1, y.read(0, 0, 0, 14));
    }

    private void promise39Bad() {
        LetsIn x = Check.townOf(THREE + "debt 0 1 50;");
        x.sheet(1, 1, 9);
        lay(x, 1, 0, 1, 5, 1, 2, 6, 2, 0, 7);
        check.due("no sheet", -1, x.read(4, 1, 0, 1));
        check.due("no sheet", -1, x.read(-1, 1, 0, 1));
        check.due("no lane", -1, x.read(1, 3, 0, 1));
        check.due("no lane", -1, x.read(1, -1, 0, 1));
        check.due("n", -1, x.read(1, 1, 0, -1));
        check.due("n", -1, x.read(1, 1, 0, 14));
        int[][] wrong = {{6, 3}, {6, -1}, {7, 3}, {7, 2}, {7, -1}, {8, 100}, {8, -1}};
        for (int[] cell : wrong) {
            lay(x, 1, 0, 1, 5, 1, 2, 6, 2, 0, 7);
            x.lay(1, cell[0], cell[1]);
            check.due("debt 2 is bad", -22, x.read(1, 1, 0, 3));
            check.due("then none came", 50, x.owes(0, 1));
            check.due("then none came", 0, x.owes(1, 2));
            check.due("it is the first there", -20, x.read(1, 1, 6, 2));
        }
        lay(x, 1, 0, 0, 5, 1, 1, 6);
        check.due("the first met", -20, x.read(1, 1, 0, 3));
        lay(x, 1, 0, 1, 5, 3, 3, 6);
        check.due("bad is met ahead of the end", -21, x.read(1, 1, 0, 13));
        check.due("then none came", 50, x.owes(0, 1));
        lay(x, 1, 0, 1, 5, 1, 2, 6, 2, 0, 7);
        x.lay(1, 8, 100);
        check.due("what is not whole is not bad", 2, x.read(1, 1, 1, 0) + x.read(1, 1, 0, 2));
    }

    private void promise39Torn() {
        LetsIn x = Check.townOf(THREE);
        x.sheet(1, 1, 8);
        lay(x, 1, 0, 1, 5, 1, 2, 6, 9, 9);
        check.due("two were whole", 2, x.read(1, 1, 0, 3));
        check.due("index", 2, x.torn());
        check.due("they came", 5, x.owes(0, 1));
        check.due("they came", 6, x.owes(1, 2));
        check.due("none was whole", 0, x.read(1, 1, 6, 1));
        check.due("index", 2, x.torn());
        check.due("ahead of all", 0, x.read(1, 1, -3, 2));
        check.due("index", 2, x.torn());
        check.due("far away", 0, x.read(1, 1, Integer.MAX_VALUE, 13));
        check.due("index", 2, x.torn());
        check.due("far away", 0, x.read(1, 1, Integer.MIN_VALUE, 13));
        check.due("index", 2, x.torn());
        check.due("another lane", 0, x.read(1, 0, 0, 1));
        check.due("cast", 3, x.torn());
        check.due("another lane", 0, x.read(1, 2, 99, 1));
        check.due("cast ahead of index", 3, x.torn());
        check.due("nothing", 0, x.read(0, 1, 99, 1));
        check.due("null ahead of index", 1, x.torn());
    }

    /** Nothing, an index, another lane: each is met only where a DEBT is read. */
    private void promise39None() {
        LetsIn x = Check.townOf(THREE + "debt 0 1 50;");
        x.sheet(1, 1, 3);
        x.sheet(2, 0, 0);
        int[][] none = {{0, 0, 0}, {0, 2, 99}, {1, 1, 0}, {1, 1, 99}, {1, 1, -1}, {1, 0, 0}, {1, 2, 99}, {2, 1, 0},
            {2, 2, Integer.MIN_VALUE}, {2, 0, Integer.MAX_VALUE}};
        for (int[] of : none) {
            x.read(1, 0, 0, 1);
            check.due("another lane", 3, x.torn());
            check.due("no debts", 0, x.read(of[0], of[1], of[2], 0));
            check.due("no fault", 0, x.torn());
        }
        check.due("debts stay", 50, x.owes(0, 1));
        check.due("one of the same", 0, x.read(2, 1, 0, 1));
        check.due("cast", 3, x.torn());
        check.due("one of the same", 0, x.read(2, 0, 0, 1));
        check.due("index", 2, x.torn());
        check.due("one of the same", 0, x.read(0, 0, 0, 1));
        check.due("null", 1, x.torn());
    }

    private void promise40() {
        LetsIn x = Check.townOf(THREE);
        x.sheet(1, 1, 3);
        lay(x, 1, 0, 1, 5);
        check.due("none yet", 0, x.torn());
        x.read(1, 0, 0, 1);
        check.due("cast", 3, x.torn());
        check.due("bad", -1, x.read(1, 3, 0, 1));
        check.due("of the latest that came to an end", 3, x.torn());
        x.lay(1, 0, 9);
        check.due("bad debt", -20, x.read(1, 1, 0, 1));
        check.due("of the latest that came to an end", 3, x.torn());
        x.lay(3, 0, 0);
        x.sheet(3, 0, -1);
        check.due("of read() alone", 3, x.torn());
        x.lay(1, 0, 0);
        check.due("read", 1, x.read(1, 1, 0, 1));
        check.due("none", 0, x.torn());
    }

    private void promise41() {
        LetsIn x = Check.townOf(THREE + "debt 0 1 5;debt 1 0 6;debt 2 1 99;");
        check.due("debts", 3, x.count(0));
        check.due("summed", 110, x.count(1));
        x.debt(1, 0, 1);
        check.due("debts", 3, x.count(0));
        x.debt(1, 0, 0);
        check.due("debts", 2, x.count(0));
        check.due("summed", 104, x.count(1));
        check.due("seen", 0, x.count(2));
        x.see(2);
        check.due("seen", 1, x.count(2));
        check.due("images", 0, x.count(3));
        x.keep(1);
        check.due("images", 1, x.count(3));
        x.keep(0);
        check.due("images", 2, x.count(3));
        check.due("tape", 0, x.count(4));
        x.feed(0);
        check.due("tape", 8, x.count(4));
        check.due("sheet 0", -4, x.count(5));
        x.sheet(1, 0, 7);
        check.due("sheet 0", -4, x.count(5));
        x.sheet(0, 2, 7);
        check.due("sheet 0", 7, x.count(5));
        check.due("count", -1, x.count(6));
        check.due("count", -1, x.count(-1));
    }
}
