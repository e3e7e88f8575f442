/** Promises 1 to 9: a new object, THE TAPE, the text and its FAULTS, what there is. */
public final class TextTest {
    private static final String ONE = "one plain 1 1 1 1;";
    private static final String TWO = ONE + ONE;

    private final Check check = new Check("TextTest");

    public static void main(String[] args) {
        TextTest test = new TextTest();
        test.promise1();
        test.promise2();
        test.promise3();
        test.promise4();
        test.promise4Faults();
        test.promise4Stays();
        test.promise4Cut();
        test.sevenOnes();
        test.promise5();
        test.promise6and7();
        test.promise8();
        test.promise9();
        test.promise9Sons();
        test.check.finish();
    }

    private void promise1() {
        LetsIn x = new LetsIn();
        check.due("nobody", 0, x.rule(0));
        check.due("law", 0, x.rule(1));
        check.due("counters", 1, x.rule(2));
        check.due("fault", 0, x.fault());
        check.due("torn", 0, x.torn());
        check.due("rings", 0, x.rings());
        check.due("orders of nobody", 1, x.order(0));
        check.due("place of nobody", -1, x.order(10));
        check.due("shop of nobody", 0, x.shop(0));
        check.due("shop's place of nobody", -1, x.shop(10));
        check.due("judge", -4, x.judge());
        check.due("forget", 0, x.forget());
        check.due("one", -1, x.one(0, 0));
        check.due("served", -1, x.served(0));
        check.due("stands", -1, x.stands(0));
        check.due("row", -4, x.row(0, 0));
        for (int what = 0; what < 4; what++) {
            check.due("all " + what, 0, x.all(what));
            check.due("day " + what, 0, x.day(7, what));
        }
        for (int what = 0; what < 5; what++) {
            check.due("count " + what, 0, x.count(what));
        }
        check.due("sheet 0", -4, x.count(5));
        for (int k = 0; k < 4; k++) {
            check.due("a sheet has nothing", -11, x.lay(k, 0, 0));
        }
        check.due("no image", -2, x.back(0));
        check.due("an image of nobody", 0, x.keep(0));
        check.due("back to nobody", 0, x.back(0));
    }

    private void promise2() {
        LetsIn x = new LetsIn();
        for (int i = 1; i <= 50; i++) {
            check.due("feed", 8 * i, x.feed(0x2020202020202020L));
        }
        check.due("full", -3, x.feed(0));
        check.due("refused", 400, x.count(4));
        check.due("cut", 400, x.end(393));
        check.due("393 and 8 are more", -3, x.feed(0));
        check.due("cut", 393, x.end(392));
        check.due("392 and 8 are 400", 400, x.feed(0x2020202020202020L));
        check.due("blanks only", 0, x.town());
        check.due("empty then", 0, x.count(4));

        LetsIn y = new LetsIn();
        check.due("the highest byte first", 8, y.feed(0x6c617720313b2020L));
        check.due("law 1;", 1, y.town());
        check.due("law", 1, y.rule(1));
    }

    private void promise3() {
        LetsIn x = new LetsIn();
        check.due("end", 0, x.end(0));
        check.due("end 1 of 0", -1, x.end(1));
        x.feed(0x6c617720313b2424L);
        check.due("below 0", -1, x.end(-1));
        check.due("9 of 8", -1, x.end(9));
        check.due("refused", 8, x.count(4));
        check.due("8 of 8", 8, x.end(8));
        check.due("6 of 8", 8, x.end(6));
        check.due("has", 6, x.count(4));
        check.due("what is cut is gone", 1, x.town());
    }

    private void promise4() {
        lines(0, "");
        lines(0, "    ");
        lines(1, "law 1;");
        lines(1, "law1;");
        lines(1, "  law   01  ;  ");
        lines(2, "counters 2;law 0;");
        lines(1, "one rich 60 9 9 50;");
        lines(1, "one proud 00 1 0 0;");
        lines(3, "one payer60 9 9 50;one son0 1 1 1 1;debt 1 0 99;");
        lines(3, "debt 1 0 1;" + TWO);
        lines(2, "one son 1 0 1 0 0;one son 0 0 1 0 0;");
        lines(7, ONE + ONE + ONE + ONE + ONE + ONE + "one son 0 1 1 1 1;");
        lines(4, TWO + "debt 0 1 1;debt 1 0 1;");
    }

    private void lines(int want, String text) {
        LetsIn x = new LetsIn();
        check.due(text, want, Check.tell(x, text));
        check.due("no fault of " + text, 0, x.fault());
        check.due("the tape is empty", 0, x.count(4));
    }

    private void promise4Faults() {
        // 1: no TOKEN, a NUMBER that is too long
        faulty(1, 0, "$");
        faulty(1, 2, "  Law 1;");
        faulty(1, 3, "law\t1;");
        faulty(1, 4, "law 100;");
        faulty(1, 4, "law 001;");
        faulty(1, 6, "law 1 \u00e9;");
        faulty(1, 5, "law 1-");
        faulty(1, 0, "123");
        faulty(1, 6, "law 1;\u0000");
        for (char sign : new char[] {'/', ':', '`', '{', 'A', 'Z', '\n', 127, 128, 255}) {
            faulty(1, 0, sign + ";");
        }
        faulty(1, 4, "one $");
        faulty(1, 8, "one son $ 1 1 1 1;");
        faulty(1, 10, "one plain $ 1 1 1;");
        faulty(1, 12, "one plain 1 $ 1 1;");
        faulty(1, 14, "one plain 1 1 $ 1;");
        faulty(1, 16, "one plain 1 1 1 $;");
        faulty(1, 17, "one plain 1 1 1 1$");
        faulty(1, 4, "law $;");
        faulty(1, 9, "counters $;");
        faulty(1, 10, "counters 1$");
        faulty(1, 5, "debt $ 1 1;");
        faulty(1, 7, "debt 0 $ 1;");
        faulty(1, 9, "debt 0 1 $;");
        faulty(1, 10, "debt 0 1 1$");
        // 2: what can not stand there
        faulty(2, 0, ";");
        faulty(2, 0, "7");
        faulty(2, 0, "laws 1;");
        faulty(2, 0, "a");
        faulty(2, 0, "z");
        faulty(2, 0, "0");
        faulty(2, 0, "99;");
        faulty(2, 0, "caw 1;");
        faulty(2, 0, "lay 1;");
        faulty(2, 4, "one pxain 1 1 1 1;");
        faulty(2, 0, "la 1;");
        faulty(2, 0, "plain 1;");
        faulty(2, 1, " oneplain 1 1 1 1;");
        faulty(2, 3, "law");
        faulty(2, 6, "law   ");
        faulty(2, 5, "law 1");
        faulty(2, 4, "law ;");
        faulty(2, 4, "law one;");
        faulty(2, 6, "law 1 1;");
        faulty(2, 4, "one 1 1 1 1;");
        faulty(2, 4, "one law 1 1 1 1;");
        faulty(2, 4, "one ;");
        faulty(2, 8, "one son ;");
        faulty(2, 16, "one plain 1 1 1 ;");
        faulty(2, 19, "one plain 1 1 1 1  1;");
        faulty(2, 9, "debt 0 1 ;");
        faulty(2, 10, "debt 0 1 1law 1;");
        faulty(2, 6, "law 1;; ");
        // 3: NUMBERS out of their bounds
        faulty(3, 4, "law 2;");
        faulty(3, 9, "counters 0;");
        faulty(3, 9, "counters 3;");
        faulty(3, 10, "one plain 61 1 1 1;");
        faulty(3, 12, "one plain 0 0 1 1;");
        faulty(3, 12, "one plain 0 10 1 1;");
        faulty(3, 14, "one plain 0 1 10 1;");
        faulty(3, 16, "one plain 0 1 1 51;");
        faulty(3, 8, "one son 7 1 1 1 1;");
        faulty(3, 5, "debt 7 1 1;");
        faulty(3, 7, "debt 1 7 1;");
        faulty(3, 9, "debt 0 1 0;");
        faulty(3, 9, "debt 0 1 00;");
        // 4: not again, not himself
        faulty(4, 6, "law 1;law 1;");
        faulty(4, 6, "law 1;law $");
        faulty(4, 12, "counters 1; counters 2;");
        faulty(4, 8, "one son 0 1 1 1 1;");
        faulty(4, 26, ONE + "one son 1 1 1 1 1;");
        faulty(4, 7, "debt 3 3 1;");
        faulty(4, 36 + 11 + 7, TWO + "debt 0 1 1;debt 0 1 0;");
        // 5: the 8th one
        faulty(5, 126, ONE + ONE + ONE + ONE + ONE + ONE + ONE + "one");
        faulty(5, 128, ONE + ONE + ONE + ONE + ONE + ONE + ONE + "  one $");
        // 6: a ONE that there is not, behind all
        faulty(6, 18, "one son 1 1 1 1 1;");
        faulty(6, 20, "one son 1 1 1 1 1;  ");
        faulty(6, 11, "debt 0 1 1;");
        faulty(6, 47, TWO + "debt 0 2 1;");
        faulty(6, 47, TWO + "debt 2 0 1;");
        // The FAULT that is met first counts, though a ONE misses, too.
        faulty(4, 53, TWO + "debt 0 2 1;law 1;law 1;");
    }

    private void faulty(int fault, int place, String text) {
        LetsIn x = new LetsIn();
        check.due(text, -10 - place, Check.tell(x, text));
        check.due("fault of " + text, fault, x.fault());
        check.due("the tape is empty", 0, x.count(4));
        check.due("nobody is told", 0, x.rule(0));
        check.due("the law is not told", 0, x.rule(1));
    }

    private void promise4Stays() {
        LetsIn x = Check.townOf("law 1;counters 2;" + TWO + "debt 0 1 7;");
        x.keep(0);
        x.keep(1);
        x.see(1);
        x.sheet(0, 0, 5);
        check.due("a fault", -10, Check.tell(x, "x"));
        check.due("people stay", 2, x.rule(0));
        check.due("law stays", 1, x.rule(1));
        check.due("counters stay", 2, x.rule(2));
        check.due("debts stay", 7, x.owes(0, 1));
        check.due("seen stays", 1, x.count(2));
        check.due("images stay", 2, x.count(3));
        check.due("another text", 2, Check.tell(x, TWO));
        check.due("people in place of what there were", 2, x.rule(0));
        check.due("law in place of what there was", 0, x.rule(1));
        check.due("counters in place of what there were", 1, x.rule(2));
        check.due("debts in place of what there were", 0, x.owes(0, 1));
        check.due("nobody is seen", 0, x.count(2));
        check.due("images are gone", 0, x.count(3));
        check.due("image 0 is gone", -2, x.back(0));
        check.due("image 1 is gone", -2, x.back(1));
        check.due("sheets are not", 5, x.count(5));
        check.due("law, counters once in each text", 2, Check.tell(x, "counters 2;law 1;"));
        check.due("and in each", 2, Check.tell(x, "law 1;counters 2;"));
        check.due("nobody", 0, x.rule(0));
        check.due("a text that breaks off", -13, Check.tell(x, "one"));
        check.due("then a whole one", 1, Check.tell(x, ONE));
        check.due("with none of the broken one", 1, x.rule(0));
    }

    private void promise4Cut() {
        // what was cut off THE TAPE is no part of its last TOKEN
        cut(-10 - 5, 2, "law 12;;", 5);
        cut(-10, 2, "law 1;;;", 2);
        cut(-10 - 3, 2, "lawyer;;", 3);
        cut(1, 0, "law 1;;;", 6);
        cut(0, 0, "     law", 5);
        // THE TAPE full up to its last byte
        LetsIn x = new LetsIn();
        StringBuilder text = new StringBuilder("law 1;");
        while (text.length() < 399) {
            text.append(' ');
        }
        check.due("a name at the last byte", -10 - 399, Check.tell(x, text + "a"));
        check.due("its fault", 2, x.fault());
        check.due("a figure at the last byte", -10 - 399, Check.tell(x, text + "1"));
        check.due("its fault", 2, x.fault());
        check.due("a blank at the last byte", 1, Check.tell(x, text + " "));
    }

    private void cut(int want, int fault, String eight, int n) {
        LetsIn x = new LetsIn();
        x.feed(Check.eights(eight)[0]);
        x.end(n);
        check.due(eight + " cut at " + n, want, x.town());
        check.due("its fault", fault, x.fault());
    }

    private void sevenOnes() {
        LetsIn x = Check.townOf("one son 6 1 1 1 1;" + ONE + ONE + ONE + ONE + ONE + ONE + "debt 6 0 3;debt 1 6 4;");
        check.due("father", 6, x.one(0, 5));
        check.due("owes", 3, x.owes(6, 0));
        check.due("owes", 4, x.owes(1, 6));
        check.due("no 8th", -1, x.owes(7, 0));
        check.due("the father is owed nothing by himself", 0, x.must(0, 6));
    }

    private void promise5() {
        LetsIn x = new LetsIn();
        Check.tell(x, "law 2;");
        check.due("fault", 3, x.fault());
        check.due("asked again", 3, x.fault());
        x.law(5);
        check.due("of town() alone", 3, x.fault());
        Check.tell(x, "law 1;");
        check.due("none", 0, x.fault());
    }

    private void promise6and7() {
        LetsIn x = Check.townOf("law 1;counters 2;one plain 3 4 5 6;one son 0 60 9 9 50;one rich 1 2 3 4;"
                + "one payer 0 1 0 0;one proud 7 7 7 7;");
        int[] rule = {5, 1, 2};
        for (int what = 0; what < 3; what++) {
            check.due("rule " + what, rule[what], x.rule(what));
        }
        check.due("rule", -1, x.rule(-1));
        check.due("rule", -1, x.rule(3));
        int[][] ones = {{0, 3, 4, 5, 6, -4}, {4, 60, 9, 9, 50, 0}, {3, 1, 2, 3, 4, -4}, {1, 0, 1, 0, 0, -4},
            {2, 7, 7, 7, 7, -4}};
        for (int p = 0; p < 5; p++) {
            for (int what = 0; what < 6; what++) {
                check.due("one " + p + " " + what, ones[p][what], x.one(p, what));
            }
            check.due("one", -1, x.one(p, -1));
            check.due("one", -1, x.one(p, 6));
        }
        check.due("no such one", -1, x.one(5, 0));
        check.due("no such one", -1, x.one(-1, 0));
    }

    private void promise8() {
        LetsIn x = Check.townOf(TWO + ONE + "debt 0 1 7;debt 1 0 99;debt 2 1 1;");
        check.due("owes", 7, x.owes(0, 1));
        check.due("owes", 99, x.owes(1, 0));
        check.due("owes", 1, x.owes(2, 1));
        check.due("owes", 0, x.owes(1, 2));
        check.due("alike", -1, x.owes(1, 1));
        check.due("no such one", -1, x.owes(3, 0));
        check.due("no such one", -1, x.owes(0, 3));
        check.due("no such one", -1, x.owes(-1, 0));
        check.due("no such one", -1, x.owes(0, -1));
    }

    private void promise9() {
        // 0 plain, 1 plain, 2 proud, 3 rich, 4 rich, 5 payer
        String people = TWO + "one proud 1 1 1 1;one rich 1 1 1 1;one rich 1 1 1 1;one payer 1 1 1 1;";
        LetsIn x = Check.townOf(people + "debt 0 1 7;debt 1 0 7;debt 0 2 9;debt 3 0 5;debt 5 0 1;debt 2 0 1;");
        check.due("0 and 1", 1, x.must(0, 1));
        check.due("1 and 0", 1, x.must(1, 0));
        check.due("nobody lets in a proud one", 0, x.must(0, 2));
        check.due("a proud one lets in", 1, x.must(2, 0));
        check.due("a rich one without a debt", 1, x.must(0, 3));
        check.due("a proud one lets in a rich one", 1, x.must(2, 3));
        check.due("rich ones both", 1, x.must(3, 4));
        check.due("rich ones both", 1, x.must(4, 3));
        check.due("a rich one who owes", 1, x.must(3, 0));
        check.due("a rich one who owes not", 0, x.must(3, 1));
        check.due("a payer", 1, x.must(5, 0));
        check.due("alike", -1, x.must(3, 3));
        check.due("no such one", -1, x.must(6, 0));
        check.due("no such one", -1, x.must(0, 6));
        check.due("no such one", -1, x.must(0, -1));
        x.law(1);
        check.due("as much, law 1", 0, x.must(0, 1));
        check.due("as much, law 1", 0, x.must(1, 0));
        x.debt(0, 1, 8);
        check.due("more, law 1", 1, x.must(0, 1));
        check.due("less, law 1", 0, x.must(1, 0));
        check.due("rich, law 1", 1, x.must(0, 3));
        check.due("proud, law 1", 0, x.must(0, 2));
        check.due("proud to plain: 1 is less than 9", 0, x.must(2, 0));
    }

    private void promise9Sons() {
        // 0 father of 1, 1 father of 2, 3 another one
        LetsIn x = Check.townOf(ONE + "one son 0 1 1 1 1;one son 1 1 1 1 1;" + ONE + "debt 0 3 5;");
        check.due("a father's debt", 1, x.must(1, 3));
        check.due("not a father's father's", 0, x.must(2, 3));
        check.due("what is owed to a son is his own", 0, x.must(3, 1));
        x.debt(0, 1, 4);
        check.due("the father lets in his son", 1, x.must(0, 1));
        check.due("not his son him", 0, x.must(1, 0));
        x.debt(1, 0, 3);
        check.due("a son who owes his father himself", 1, x.must(1, 0));
        x.law(1);
        check.due("law 1: 3 against 4", 0, x.must(1, 0));
        check.due("law 1: 4 against 3", 1, x.must(0, 1));
        x.debt(3, 1, 5);
        check.due("law 1: 5 against a father's 5", 0, x.must(3, 1));
        check.due("law 1: a father's 5 against 5", 0, x.must(1, 3));
        x.debt(1, 3, 1);
        check.due("law 1: 1 and 5 against 5", 1, x.must(1, 3));
        x.debt(3, 1, 7);
        check.due("law 1: 7 against 1 and 5", 1, x.must(3, 1));
        x.law(0);
        check.due("2's father is 1, who owes 3 1", 1, x.must(2, 3));
        check.due("2's father owes 0", 1, x.must(2, 0));
        check.due("2's father is 1: nothing by him", 0, x.must(2, 1));
    }
}
