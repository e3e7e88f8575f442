/** The edges of SHEETS, of reading them, of torn and count (promises 37 to 41), sentence by sentence. */
public final class SheetEdgesTest {
    private static final int BAD = -1, NONE = -4;
    private static final int NULL = 1, INDEX = 2, CAST = 3;
    private static final String SEVEN = "one plain 0 1 1 9;".repeat(7);

    private final Check check = new Check("SheetEdgesTest");

    public static void main(String[] args) {
        SheetEdgesTest test = new SheetEdgesTest();
        test.newRow();
        test.lowestBits();
        test.layFaults();
        test.readBounds();
        test.readOfEachLane();
        test.readFrom();
        test.readWhole();
        test.readBad();
        test.readFirstMet();
        test.readAsByDebt();
        test.readNone();
        test.faultsInOrder();
        test.torn();
        test.counted();
        test.check.finish();
    }

    private static LetsIn seven() {
        return Check.townOf(SEVEN);
    }

    private static LetsIn with(int lane, int cells, int... laid) {
        LetsIn x = seven();
        x.sheet(1, lane, cells);
        for (int i = 0; i < laid.length; i++) {
            x.lay(1, i, laid[i]);
        }
        return x;
    }

    private void newRow() {
        check.says("A SHEET is a new row of CELLS 0");
        for (int lane = 0; lane < 3; lane++) {
            LetsIn x = with(lane, 6, 6, 5, 99, 6, 5, 98);
            check.due("read", 2, x.read(1, lane, 0, 2));
            check.due("owes", 98, x.owes(6, 5));
            check.due("a new row", 1, x.sheet(1, lane, 6));
            check.due("0 would owe himself", -20, x.read(1, lane, 0, 1));
            x.lay(1, 0, 6);
            x.lay(1, 1, 5);
            check.due("read", 1, x.read(1, lane, 0, 1));
            check.due("owes", 0, x.owes(6, 5));
            check.due("a greater one", 1, x.sheet(1, lane, 40));
            check.due("0 would owe himself", -20, x.read(1, lane, 3, 1));
            check.says("SHEETS 0 to 3, each a row of its own");
            for (int k = 0; k < 4; k++) {
                check.due("sheet", 1, x.sheet(k, (lane + k) % 3, k));
            }
            for (int k = 0; k < 4; k++) {
                check.due("its last cell", k == 0 ? -12 : 1, x.lay(k, k - 1, 1));
                check.due("behind it", -12, x.lay(k, k, 1));
                x.read(k, (lane + k + 1) % 3, 0, 1);
                check.due("its lane", CAST, x.torn());
            }
        }
        check.says("(at first) nothing");
        LetsIn y = seven();
        for (int k = 0; k < 4; k++) {
            check.due("lay", -11, y.lay(k, 0, 0));
            check.due("read", 0, y.read(k, k % 3, 0, 1));
            check.due("torn", NULL, y.torn());
        }
    }

    /** What a CELL has, as a DEBT of it; -20, where that can be none. */
    private void laid(int lane, int v, int want) {
        LetsIn x = with(lane, 3, 0, 1, v);
        int answer = x.read(1, lane, 0, 1);
        check.due("lane " + lane + ", " + v, want, answer == 1 ? x.owes(0, 1) : answer);
    }

    private void lowestBits() {
        check.says("CELL i of a SHEET becomes v (its lowest bits)");
        for (int lane = 0; lane < 3; lane++) {
            laid(lane, 0, 0);
            laid(lane, 99, 99);
            laid(lane, 100, -20);
            laid(lane, -1, -20);
            laid(lane, 127, -20);
            laid(lane, 128, -20);
        }
        int[] bits = {8, 16, 32};
        for (int lane = 0; lane < 3; lane++) {
            for (int v : new int[] {0, 1, 99}) {
                for (int above : new int[] {8, 12, 15, 16, 20, 31}) {
                    laid(lane, v + (1 << above), above >= bits[lane] ? v : -20);
                    laid(lane, v - (1 << above), above >= bits[lane] ? v : -20);
                }
            }
            laid(lane, 1 << bits[lane] - 1, -20);
            laid(lane, Integer.MIN_VALUE, lane < 2 ? 0 : -20);
            laid(lane, Integer.MAX_VALUE, -20);
        }
        check.says("who and whom, too");
        LetsIn x = with(0, 3, 256 + 6, -256 + 5, 512 + 7);
        check.due("read", 1, x.read(1, 0, 0, 1));
        check.due("owes", 7, x.owes(6, 5));
    }

    private void layFaults() {
        check.says("-10 less the FAULT: NULL, INDEX");
        for (int cells : new int[] {0, 1, 39, 40}) {
            LetsIn x = with(2, cells);
            for (int i = -2; i <= 42; i++) {
                check.due("cell " + i + " of " + cells, i >= 0 && i < cells ? 1 : -12, x.lay(1, i, 1));
            }
            check.due("far away", -12, x.lay(1, Integer.MAX_VALUE, 1));
            check.due("far away", -12, x.lay(1, Integer.MIN_VALUE, 1));
            check.due("nothing", -11, x.lay(2, 0, 1));
            check.due("nothing, ahead of the index", -11, x.lay(2, -1, 1));
        }
    }

    private void readBounds() {
        check.says("n (0 to 13) DEBTS; BAD: k, lane, n");
        LetsIn x = with(2, 40);
        for (int i = 0; i < 13; i++) {
            x.lay(1, 3 * i, i % 7);
            x.lay(1, 3 * i + 1, (i + 1 + i / 7) % 7);
            x.lay(1, 3 * i + 2, i + 1);
        }
        int[][] bad = {{-1, 2, 0, 1}, {4, 2, 0, 1}, {1, -1, 0, 1}, {1, 3, 0, 1}, {1, 2, 0, -1}, {1, 2, 0, 14},
            {1, 2, 0, Integer.MAX_VALUE}, {1, 2, 0, Integer.MIN_VALUE}, {4, 3, -1, 14}, {0, 3, 0, 1}, {1, 0, 0, 14}};
        for (int[] of : bad) {
            check.due("read", BAD, x.read(of[0], of[1], of[2], of[3]));
            check.due("no debts", 0, x.count(0));
            check.due("torn", 0, x.torn());
        }
        for (int n = 0; n <= 13; n++) {
            check.due("read", n, x.read(1, 2, 0, n));
            check.due("torn", 0, x.torn());
            check.due("debts", n, x.count(0));
            check.due("summed", n * (n + 1) / 2, x.count(1));
        }
    }

    private void readOfEachLane() {
        check.says("a SHEET taken as of a lane: CAST (another lane)");
        for (int lane = 0; lane < 3; lane++) {
            LetsIn x = with(lane, 3, 0, 1, 5);
            for (int as = 0; as < 3; as++) {
                x.debt(0, 1, 1);
                check.due("read", as == lane ? 1 : 0, x.read(1, as, 0, 1));
                check.due("torn", as == lane ? 0 : CAST, x.torn());
                check.due("owes", as == lane ? 5 : 1, x.owes(0, 1));
            }
        }
    }

    private void readFrom() {
        check.says("three CELLS each from CELL f on: INDEX");
        for (int cells : new int[] {0, 1, 2, 3, 4, 5, 6, 7, 38, 39, 40}) {
            for (int f = -4; f <= 41; f++) {
                LetsIn x = with(1, cells);
                for (int i = 0; i < cells; i++) {
                    x.lay(1, i, i % 3);
                }
                // from f on the CELLS are 0 1 2, 1 2 0 or 2 0 1, over and over
                int whole = f < 0 || f > cells ? 0 : (cells - f) / 3;
                check.due("read from " + f + " of " + cells, Math.min(13, whole), x.read(1, 1, f, 13));
                check.due("torn", whole >= 13 ? 0 : INDEX, x.torn());
                check.due("debts", whole > 0 && f % 3 != 1 ? 1 : 0, x.count(0));
            }
        }
        LetsIn far = with(1, 40);
        for (int f : new int[] {Integer.MIN_VALUE, Integer.MIN_VALUE + 1, Integer.MAX_VALUE, Integer.MAX_VALUE - 2,
            Integer.MAX_VALUE - 38}) {
            check.due("far away", 0, far.read(1, 1, f, 13));
            check.due("torn", INDEX, far.torn());
        }
    }

    private void readWhole() {
        check.says("What the machine refuses: those that were whole ahead come");
        for (int cells = 0; cells <= 9; cells++) {
            LetsIn x = with(0, cells, 0, 1, 10, 2, 3, 20, 4, 5, 30);
            check.due("of " + cells + " cells", cells / 3, x.read(1, 0, 0, 3));
            check.due("torn", cells == 9 ? 0 : INDEX, x.torn());
            check.due("debt 0", cells >= 3 ? 10 : 0, x.owes(0, 1));
            check.due("debt 1", cells >= 6 ? 20 : 0, x.owes(2, 3));
            check.due("debt 2", cells >= 9 ? 30 : 0, x.owes(4, 5));
        }
    }

    private void readBad() {
        check.says("-20 less i: DEBT i, whole, is BAD: then none came");
        int[][] wrong = {{0, 0, 5}, {7, 0, 5}, {0, 7, 5}, {-1, 0, 5}, {0, -1, 5}, {0, 1, 100}, {0, 1, -1}, {6, 6, 0}};
        for (int[] debt : wrong) {
            for (int i = 0; i < 13; i++) {
                LetsIn x = with(2, 40);
                for (int j = 0; j < 13; j++) {
                    x.lay(1, 3 * j, j == i ? debt[0] : 3);
                    x.lay(1, 3 * j + 1, j == i ? debt[1] : 4);
                    x.lay(1, 3 * j + 2, j == i ? debt[2] : j);
                }
                x.debt(3, 4, 77);
                check.due("debt " + i, -20 - i, x.read(1, 2, 0, 13));
                check.due("none came", 77, x.owes(3, 4));
                check.due("none came", 1, x.count(0));
                check.due("ahead of it all come", i, x.read(1, 2, 0, i));
                check.due("behind it all come", 12 - i, x.read(1, 2, 3 * i + 3, 12 - i));
            }
        }
        check.says("BAD as by debt(): v (0 to 99)");
        for (int v : new int[] {0, 1, 99}) {
            LetsIn x = with(2, 3, 5, 6, v);
            check.due("read", 1, x.read(1, 2, 0, 1));
            check.due("owes", v, x.owes(5, 6));
        }
        check.says("there is no such ONE");
        LetsIn two = Check.townOf("one plain 0 1 1 9;one plain 0 1 1 9;");
        two.sheet(1, 0, 6);
        two.lay(1, 0, 1);
        two.lay(1, 4, 2);
        check.due("there are two", -21, two.read(1, 0, 0, 2));
        two.lay(1, 4, 1);
        check.due("there are two", 2, two.read(1, 0, 0, 2));
    }

    private void readFirstMet() {
        check.says("the first met");
        LetsIn two = with(1, 9, 0, 1, 5, 9, 9, 9, 8, 8, 8);
        check.due("of two that are BAD", -21, two.read(1, 1, 0, 3));
        LetsIn bad = with(1, 8, 0, 1, 5, 9, 9, 9, 0, 1);
        check.due("BAD ahead of INDEX", -21, bad.read(1, 1, 0, 3));
        check.due("none came", 0, bad.owes(0, 1));
        check.due("torn", 0, bad.torn());
        LetsIn index = with(1, 5, 0, 1, 5, 9, 9);
        check.due("INDEX: what is not whole is not BAD", 1, index.read(1, 1, 0, 3));
        check.due("it came", 5, index.owes(0, 1));
        check.due("torn", INDEX, index.torn());
        LetsIn cast = with(1, 3, 9, 9, 9);
        check.due("CAST ahead of BAD", 0, cast.read(1, 0, 0, 1));
        check.due("torn", CAST, cast.torn());
    }

    private void readAsByDebt() {
        check.says("as by debt()");
        LetsIn x = with(0, 12, 0, 1, 5, 0, 1, 6, 1, 0, 7, 0, 1, 0);
        x.debt(0, 1, 99);
        check.due("one", 1, x.read(1, 0, 0, 1));
        check.due("in place of what he owed", 5, x.owes(0, 1));
        check.due("three", 3, x.read(1, 0, 0, 3));
        check.due("the last one of two", 6, x.owes(0, 1));
        check.due("the other way", 7, x.owes(1, 0));
        check.due("four", 4, x.read(1, 0, 0, 4));
        check.due("nothing", 0, x.owes(0, 1));
        check.due("coins stay", 9, x.one(0, 4));
        check.due("coins stay", 9, x.one(1, 4));
        check.due("the sheet stays", 4, x.read(1, 0, 0, 4));
    }

    private void readNone() {
        check.says("n 0: no CELL is asked for, and nothing is a FAULT");
        LetsIn x = with(0, 3, 9, 9, 9);
        x.sheet(2, 1, 0);
        for (int k = 0; k < 4; k++) {
            for (int lane = 0; lane < 3; lane++) {
                for (int f : new int[] {Integer.MIN_VALUE, -1, 0, 1, 3, 4, 40, Integer.MAX_VALUE}) {
                    x.read(0, 0, 0, 1);
                    check.due("torn", NULL, x.torn());
                    check.due("none", 0, x.read(k, lane, f, 0));
                    check.due("torn", 0, x.torn());
                }
            }
        }
    }

    private void faultsInOrder() {
        check.says("1 NULL (nothing), 2 INDEX, 3 CAST (another lane)");
        LetsIn x = with(0, 3, 0, 1, 5);
        int[][] calls = {{0, 0, 0, NULL}, {0, 2, 99, NULL}, {0, 1, -1, NULL}, {1, 1, 0, CAST}, {1, 2, 99, CAST},
            {1, 1, -1, CAST}, {1, 0, 1, INDEX}, {1, 0, -1, INDEX}, {1, 0, 3, INDEX}, {1, 0, 0, 0}};
        for (int[] of : calls) {
            check.due("read", of[3] == 0 ? 1 : 0, x.read(of[0], of[1], of[2], 1));
            check.due("torn", of[3], x.torn());
        }
    }

    private void torn() {
        check.says("The FAULT of the latest read() that came to an end; 0");
        LetsIn x = with(0, 4, 0, 1, 5, 9);
        check.due("none yet", 0, x.torn());
        x.read(1, 0, 0, 2);
        check.due("index", INDEX, x.torn());
        check.due("asked again", INDEX, x.torn());
        check.says("a read() that is BAD, or has a BAD DEBT, is refused and changes nothing");
        check.due("BAD", BAD, x.read(9, 0, 0, 1));
        check.due("index", INDEX, x.torn());
        x.lay(1, 1, 0);
        check.due("a BAD debt", -20, x.read(1, 0, 0, 1));
        check.due("index", INDEX, x.torn());
        check.says("of read() alone");
        x.lay(0, 0, 0);
        x.lay(1, 99, 0);
        x.sheet(1, 0, -1);
        Check.tell(x, "law 1;");
        check.due("index", INDEX, x.torn());
        Check.tell(x, SEVEN);
        x.lay(1, 1, 1);
        check.due("read", 1, x.read(1, 0, 0, 1));
        check.due("none", 0, x.torn());
        x.read(1, 0, 0, 2);
        check.due("index", INDEX, x.torn());
        check.due("none read", 0, x.read(1, 0, 0, 0));
        check.due("none", 0, x.torn());
    }

    private void counted() {
        check.says("0 DEBTS above 0, 1 all DEBTS, summed");
        LetsIn x = seven();
        int debts = 0;
        for (int a = 0; a < 7; a++) {
            for (int b = 0; b < 7; b++) {
                if (a != b) {
                    x.debt(a, b, 99);
                    debts++;
                    check.due("debts", debts, x.count(0));
                    check.due("summed", 99 * debts, x.count(1));
                }
            }
        }
        x.debt(6, 5, 0);
        check.due("debts", 41, x.count(0));
        x.debt(6, 5, 1);
        check.due("debts", 42, x.count(0));
        check.due("summed", 99 * 41 + 1, x.count(1));
        check.says("2 SEEN, 3 IMAGES, 4 bytes on THE TAPE");
        for (int p = 0; p < 7; p++) {
            check.due("seen", p, x.count(2));
            x.see(p);
        }
        check.due("seen", 7, x.count(2));
        check.due("images", 0, x.count(3));
        x.keep(0);
        check.due("images", 1, x.count(3));
        x.keep(0);
        check.due("images", 1, x.count(3));
        x.keep(1);
        check.due("images", 2, x.count(3));
        check.due("bytes", 0, x.count(4));
        x.feed(0);
        x.end(7);
        check.due("bytes", 7, x.count(4));
        check.says("5 CELLS of SHEET 0 (NONE: nothing)");
        check.due("nothing", NONE, x.count(5));
        x.sheet(1, 0, 9);
        check.due("of sheet 0", NONE, x.count(5));
        x.sheet(0, 2, 0);
        check.due("no cells", 0, x.count(5));
        x.sheet(0, 1, 40);
        check.due("40", 40, x.count(5));
        x.sheet(0, 1, 41);
        x.sheet(0, 1, -1);
        check.due("40 still", 40, x.count(5));
    }
}
