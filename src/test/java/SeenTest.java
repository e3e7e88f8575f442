/** Promises 30 to 33: what a row tells. */
public final class SeenTest {
    private final Check check = new Check("SeenTest");

    public static void main(String[] args) {
        SeenTest test = new SeenTest();
        test.promise30and31();
        test.promise32();
        test.promise32LaterBetween();
        test.promise33();
        test.toldIsWhatMustIs();
        test.check.finish();
    }

    private static LetsIn four() {
        return Check.townOf("one plain 0 1 1 1;one plain 1 1 1 1;one plain 1 1 1 1;one plain 3 1 1 1;");
    }

    private static void see(LetsIn x, int... ones) {
        x.forget();
        for (int p : ones) {
            x.see(p);
        }
    }

    private void promise30and31() {
        LetsIn x = four();
        check.due("see", 1, x.see(3));
        check.due("see", 2, x.see(0));
        check.due("is seen", -2, x.see(3));
        check.due("nobody", -1, x.see(4));
        check.due("nobody", -1, x.see(-1));
        check.due("refused", 2, x.count(2));
        check.due("see", 3, x.see(1));
        check.due("see", 4, x.see(2));
        check.due("is seen", -2, x.see(2));
        check.due("forget", 4, x.forget());
        check.due("nobody is seen", 0, x.count(2));
        check.due("forget", 0, x.forget());
        check.due("see", 1, x.see(3));
        x.keep(0);
        x.see(2);
        x.back(0);
        check.due("an image has not what is seen", 2, x.count(2));
    }

    private void told(LetsIn x, int a, int b, int want) {
        check.due("told(" + a + ", " + b + ")", want, x.told(a, b));
    }

    private void promise32() {
        LetsIn x = four();
        told(x, 0, 1, -4);
        see(x, 1, 0, 2);
        told(x, 0, 1, 1);
        told(x, 1, 0, -4);
        // 1 and 2 come in one MINUTE, 1 by numbers first; 2 stopped behind 0
        told(x, 0, 2, 0);
        told(x, 1, 2, -4);
        told(x, 2, 1, -4);
        told(x, 2, 0, -4);
        told(x, 0, 3, -4);
        told(x, 3, 0, -4);
        check.due("alike", -1, x.told(1, 1));
        check.due("nobody", -1, x.told(1, 4));
        check.due("nobody", -1, x.told(4, 1));
        check.due("nobody", -1, x.told(-1, 1));
        x.comes(1, 60);
        told(x, 2, 1, 1);
        told(x, 0, 1, 1);
        told(x, 0, 2, 0);
        told(x, 1, 2, -4);
    }

    private void promise32LaterBetween() {
        // 3 came last and stands between 0 and 1: 1 had stopped behind 0
        LetsIn x = four();
        see(x, 0, 3, 1, 2);
        told(x, 0, 1, 0);
        told(x, 1, 2, 0);
        told(x, 0, 2, -4);
        told(x, 0, 3, 0);
        told(x, 1, 3, 1);
        told(x, 2, 3, 1);
        see(x, 0, 3);
        told(x, 0, 3, 0);
    }

    private void promise33() {
        LetsIn x = four();
        check.due("nobody is seen", -4, x.judge());
        see(x, 0, 1, 2, 3);
        check.due("as they came", -4, x.judge());
        see(x, 3, 1, 2, 0);
        check.due("at the front", 0, x.judge());
        see(x, 0, 2);
        check.due("just these", -4, x.judge());
        see(x, 0, 2, 1);
        check.due("2 and 1", 1, x.judge());
        x.debt(1, 2, 5);
        check.due("1 owes 2", -4, x.judge());
        see(x, 0, 1, 2, 3);
        check.due("another one at 1", 1, x.judge());
        see(x, 0, 2, 1, 3);
        check.due("as it is", -4, x.judge());
        x.debt(1, 3, 5);
        check.due("3 passes 1", 2, x.judge());
        see(x, 0, 1, 3);
        check.due("just these: 3 passes 1", 1, x.judge());
        see(x, 0, 3, 1);
        check.due("just these", -4, x.judge());
        // payers are as plain ones; a father's debts count though he is not seen
        LetsIn y = Check.townOf("one payer 0 1 1 50;one plain 1 1 1 1;one son 0 2 1 1 1;one plain 3 1 1 1;"
                + "debt 0 1 5;debt 0 3 5;");
        see(y, 1, 0);
        check.due("a payer lets in", -4, y.judge());
        see(y, 3, 2);
        check.due("a son of one who is not seen", -4, y.judge());
    }

    private void toldIsWhatMustIs() {
        LetsIn x = Check.townOf("one plain 0 1 1 1;one plain 1 1 1 1;one plain 2 1 1 1;one rich 3 1 1 1;"
                + "one proud 4 1 1 1;one plain 4 1 1 1;debt 0 1 2;debt 2 5 1;debt 4 5 1;debt 3 5 1;debt 1 5 1;");
        see(x, x.stands(0), x.stands(1), x.stands(2), x.stands(3), x.stands(4), x.stands(5));
        check.due("all are seen", 6, x.count(2));
        check.due("it is the row", -4, x.judge());
        int known = 0;
        for (int a = 0; a < 6; a++) {
            for (int b = 0; b < 6; b++) {
                if (a != b && x.told(a, b) >= 0) {
                    known++;
                    check.due("told(" + a + ", " + b + ")", x.must(a, b), x.told(a, b));
                }
            }
        }
        check.holds("something is told", known >= 5);
    }
}
