/** The edges of a text, sentence by sentence: THE TAPE, TOKENS, bounds, each FAULT at each place, what is taken. */
public final class TextEdgesTest {
    private static final int BAD = -1, STATE = -2, FULL = -3, NONE = -4;
    private static final String ONE = "one plain 1 1 1 1;";
    private static final String[] KINDS = {"plain", "payer", "proud", "rich", "son"};
    /** Lines, TOKEN by TOKEN; each one's NUMBERS with their bounds. */
    private static final String[][] LINES = {
        {"law", "1", ";"}, {"counters", "2", ";"}, {"one", "plain", "60", "9", "9", "50", ";"},
        {"one", "payer", "0", "1", "0", "0", ";"}, {"one", "son", "1", "60", "9", "9", "50", ";"},
        {"debt", "5", "3", "99", ";"}};
    private static final int[][][] BOUNDS = {
        {{0, 1}}, {{1, 2}}, {{0, 60}, {1, 9}, {0, 9}, {0, 50}}, {{0, 60}, {1, 9}, {0, 9}, {0, 50}},
        {{0, 6}, {0, 60}, {1, 9}, {0, 9}, {0, 50}}, {{0, 6}, {0, 6}, {1, 99}}};

    private final Check check = new Check("TextEdgesTest");

    public static void main(String[] args) {
        TextEdgesTest test = new TextEdgesTest();
        test.tape();
        test.tapeKept();
        test.tokens();
        test.blanks();
        test.everySign();
        test.wrongTokens();
        test.numbersWithin();
        test.numbersBeyond();
        test.firstMet();
        test.secondTime();
        test.fathers();
        test.debts();
        test.eighth();
        test.nobodyThere();
        test.lines();
        test.tellsAll();
        test.goneAndStays();
        test.nothingOfABrokenText();
        test.check.finish();
    }

    private static String seven() {
        return ONE.repeat(7);
    }

    private void taken(String text, int lines) {
        LetsIn x = new LetsIn();
        check.due(text, lines, Check.tell(x, text));
        check.due("fault of " + text, 0, x.fault());
        check.due("the tape behind " + text, 0, x.count(4));
    }

    private void faulty(String text, int fault, int place) {
        LetsIn x = new LetsIn();
        check.due(text, -10 - place, Check.tell(x, text));
        check.due("fault of " + text, fault, x.fault());
        check.due("the tape behind " + text, 0, x.count(4));
    }

    private void tape() {
        check.says("THE TAPE has 400 bytes. FULL: more than 400");
        LetsIn x = new LetsIn();
        for (int i = 1; i <= 50; i++) {
            check.due("feed", 8 * i, x.feed(0));
            check.due("bytes", 8 * i, x.count(4));
        }
        check.due("408", FULL, x.feed(0));
        for (int had = 400; had > 392; had--) {
            check.due("end", had, x.end(had - 1));
            check.due(had + 7 + " bytes", had - 1 + 8 > 400 ? FULL : had + 7, x.feed(0));
        }
        check.due("end", 400, x.end(0));
        check.due("feed", 8, x.feed(0));
        check.says("the highest first");
        for (int cut = 0; cut <= 8; cut++) {
            // law 1; and two blanks, cut behind each byte
            LetsIn y = new LetsIn();
            y.feed(0x6c617720313b2020L);
            check.due("end", 8, y.end(cut));
            int[] want = {0, -10, -10, -13, -14, -15, 1, 1, 1};
            check.due("law 1; cut behind " + cut, want[cut], y.town());
            check.due("its fault", cut > 0 && cut < 6 ? 2 : 0, y.fault());
        }
    }

    private void tapeKept() {
        check.says("THE TAPE keeps its first n bytes: how many it had. BAD");
        LetsIn x = new LetsIn();
        check.due("of an empty one", 0, x.end(0));
        check.due("of an empty one", BAD, x.end(1));
        Check.feed(x, "law 1;counters 2;$$$");
        check.due("20", BAD, x.end(21));
        check.due("20", BAD, x.end(-1));
        check.due("20", 20, x.end(20));
        check.due("20", 20, x.end(17));
        check.due("what it keeps is told", 2, x.town());
        check.due("law", 1, x.rule(1));
        check.due("counters", 2, x.rule(2));
        check.due("empty then", BAD, x.end(1));
        // bytes come behind those that are kept
        x.feed(Check.eights("law 1;$$")[0]);
        x.end(6);
        x.feed(Check.eights("counters")[0]);
        x.feed(Check.eights(" 2;     ")[0]);
        check.due("end to end", 2, x.town());
    }

    private void tokens() {
        check.says("TOKENS, each as long as may be");
        taken("law1;counters2;", 2);
        taken("law 0;one plain0 1 0 0;one son0 60 9 9 50;debt0 1 99;", 4);
        faulty("law1counters2;", 2, 4);
        faulty("lawlaw 1;", 2, 0);
        faulty("onepayer 1 1 1 1;", 2, 0);
        faulty("one plainn 1 1 1 1;", 2, 4);
        faulty("one plai n 1 1 1 1;", 2, 4);
        faulty("la w 1;", 2, 0);
        // 11 is one NUMBER, not two of them
        faulty("one plain 11 1 1;", 2, 16);
        faulty("one plain 1 1 11;", 3, 14);
        faulty("debt 02 1;", 2, 9);
        taken(ONE + ONE + "debt 00 01 09;", 3);
        taken("law 00;", 1);
        taken("law 01;", 1);
        check.says("NUMBERS (1 or 2 figures); 1: a NUMBER that is too long (its first byte)");
        faulty("law 000;", 1, 4);
        faulty("law  001", 1, 5);
        faulty("1234567", 1, 0);
        faulty("law 1;  111", 1, 8);
        faulty("law 99999999999999999999;", 1, 4);
        check.says("one ;");
        faulty("law 1;;", 2, 6);
        faulty(";", 2, 0);
        faulty("law;", 2, 3);
    }

    private void blanks() {
        check.says("blanks (32) between");
        taken(" ", 0);
        taken("  law  1  ;  counters  2  ;  ", 2);
        taken(" ".repeat(400), 0);
        taken(" ".repeat(394) + "law 1;", 1);
        taken("law" + " ".repeat(395) + "1;", 1);
        faulty("law" + " ".repeat(396) + "1", 2, 400);
        faulty(" ".repeat(399) + "l", 2, 399);
        faulty(" ".repeat(399) + ";", 2, 399);
        faulty(" ".repeat(399) + "$", 1, 399);
    }

    private void everySign() {
        check.says("NAMES (a .. z), NUMBERS, one ;   1: no TOKEN");
        for (int sign = 0; sign < 256; sign++) {
            char c = (char) sign;
            boolean blank = c == ' ';
            boolean token = c >= 'a' && c <= 'z' || c >= '0' && c <= '9' || c == ';';
            if (blank) {
                taken("" + c, 0);
                taken("law" + c + "1;", 1);
            } else {
                faulty("" + c, token ? 2 : 1, 0);
                faulty("  " + c + "law 1;", token ? 2 : 1, 2);
            }
        }
    }

    /** A line with another TOKEN, or none, in place of TOKEN i and nothing behind it; it stands at the place told. */
    private static String with(String[] line, int i, String token) {
        StringBuilder text = new StringBuilder();
        for (int j = 0; j < i; j++) {
            text.append(line[j]).append("  ");
        }
        return text + token;
    }

    private void wrongTokens() {
        for (String[] line : LINES) {
            for (int i = 0; i < line.length; i++) {
                int place = with(line, i, "").length();
                boolean number = Character.isDigit(line[i].charAt(0));
                check.says("2: a TOKEN that can not stand there (or the end: the length)");
                if (i > 0) {
                    faulty(with(line, i, ""), 2, place);
                    faulty(with(line, i, "   "), 2, place + 3);
                }
                faulty(with(line, i, number ? "law" : "1"), 2, place);
                faulty(with(line, i, number ? "one $" : "0 $"), 2, place);
                if (!line[i].equals(";")) {
                    faulty(with(line, i, ";"), 2, place);
                    faulty(with(line, i, ";$"), 2, place);
                } else {
                    faulty(with(line, i, "debt"), 2, place);
                }
                check.says("2: a NAME that begins no line, is no K");
                for (String name : new String[] {"x", "a", "z", "laws", "ones", "debts", "counter", "on", "sons"}) {
                    faulty(with(line, i, name), 2, place);
                }
                for (String kind : KINDS) {
                    if (i != 1 || !line[0].equals("one")) {
                        faulty(with(line, i, kind), 2, place);
                    }
                }
                check.says("1: no TOKEN, a NUMBER that is too long (its first byte)");
                for (String none : new String[] {"$", "L", "-1", "\t", "\n", "\u0000", "\u00ff", "123", "000"}) {
                    faulty(with(line, i, none), 1, place);
                }
            }
        }
    }

    private static String numbered(String[] line, int i, int v) {
        String[] other = line.clone();
        other[i] = Integer.toString(v);
        return String.join(" ", other);
    }

    private static int firstNumber(String[] line) {
        return line[0].equals("one") ? 2 : 1;
    }

    /** A line that tells a ONE makes the last of seven, or the first one, if the last is his FATHER. */
    private static String amongSeven(String line) {
        if (!line.startsWith("one")) {
            return seven() + line;
        }
        return line.startsWith("one son 6") ? line + ONE.repeat(6) : ONE.repeat(6) + line;
    }

    private void numbersWithin() {
        check.says("COMES 0 to 60, WANTS 1 to 9, COST 0 to 9, COINS 0 to 50, how much 1 to 99, LAW, COUNTERS");
        for (int l = 0; l < LINES.length; l++) {
            for (int j = 0; j < BOUNDS[l].length; j++) {
                for (int v = BOUNDS[l][j][0]; v <= BOUNDS[l][j][1]; v++) {
                    String line = numbered(LINES[l], firstNumber(LINES[l]) + j, v);
                    boolean alike = line.startsWith("debt") && (v == 3 && j == 0 || v == 5 && j == 1);
                    if (!alike) {
                        taken(amongSeven(line), line.startsWith("one") ? 7 : 8);
                    }
                }
            }
        }
        LetsIn x = Check.townOf("one plain 0 1 0 0;one plain 60 9 9 50;debt 0 1 1;debt 1 0 99;");
        int[][] want = {{0, 0, 1, 0, 0}, {0, 60, 9, 9, 50}};
        for (int p = 0; p < 2; p++) {
            for (int what = 0; what < 5; what++) {
                check.due("one(" + p + ", " + what + ")", want[p][what], x.one(p, what));
            }
        }
        check.due("owes", 1, x.owes(0, 1));
        check.due("owes", 99, x.owes(1, 0));
    }

    private void numbersBeyond() {
        check.says("3: a NUMBER out of its bounds");
        for (int l = 0; l < LINES.length; l++) {
            for (int j = 0; j < BOUNDS[l].length; j++) {
                int i = firstNumber(LINES[l]) + j;
                int place = String.join(" ", java.util.Arrays.copyOf(LINES[l], i)).length() + 1;
                for (int v : new int[] {BOUNDS[l][j][0] - 1, BOUNDS[l][j][1] + 1, 99}) {
                    if (v >= 0 && v <= 99 && (v < BOUNDS[l][j][0] || v > BOUNDS[l][j][1])) {
                        faulty(numbered(LINES[l], i, v), 3, place);
                        // it is met ahead of what stands behind it
                        String text = numbered(LINES[l], i, v);
                        faulty(text.substring(0, place + Integer.toString(v).length()) + "$", 3, place);
                        faulty(text.substring(0, place + Integer.toString(v).length()), 3, place);
                    }
                }
            }
        }
        faulty("debt 0 1 00;", 3, 9);
        faulty("counters 00;", 3, 9);
    }

    private void firstMet() {
        check.says("FAULTS, the first met as it is read (a TOKEN is read when the one before has been taken)");
        faulty("laws$", 2, 0);
        faulty("law$", 1, 3);
        faulty("law 2$", 3, 4);
        faulty("law 1$", 1, 5);
        faulty("law 1;law$", 4, 6);
        faulty("one plainx$", 2, 4);
        faulty("one son 0$", 4, 8);
        faulty("one son 7$", 3, 8);
        faulty("debt 7 7$", 3, 5);
        faulty("debt 6 7$", 3, 7);
        faulty("debt 6 6$", 4, 7);
        faulty("debt 6 6 0;", 4, 7);
        faulty("debt 0 1 1;debt 0 1$", 4, 18);
        faulty("debt 0 1 1;debt 0 1 0;", 4, 18);
        faulty(seven() + "one$", 5, 126);
        faulty(seven() + "one x", 5, 126);
        faulty(seven() + "ones", 2, 126);
        faulty("law 2;counters 3;$", 3, 4);
        faulty("debt 0 1 1;$", 1, 11);
    }

    private void secondTime() {
        check.says("4: law, counters for the second time (its NAME)");
        faulty("law 0;law 0;", 4, 6);
        faulty("law 0;  law 1;", 4, 8);
        faulty("counters 1;counters 1;", 4, 11);
        faulty("counters 2;law 1;counters 2;", 4, 17);
        faulty("law 1;counters 2;law 1;", 4, 17);
        faulty("law 1;" + ONE + "law 1;", 4, 24);
        taken("law 1;counters 2;", 2);
        taken("counters 2;law 1;", 2);
    }

    private void fathers() {
        check.says("4: a FATHER who is the ONE himself (he); FATHER, another ONE");
        for (int p = 0; p < 7; p++) {
            for (int father = 0; father < 7; father++) {
                String text = ONE.repeat(p) + "one son " + father + " 1 1 1 1;" + ONE.repeat(6 - p);
                if (father == p) {
                    faulty(text, 4, 18 * p + 8);
                } else {
                    taken(text, 7);
                    check.due("father", father, Check.townOf(text).one(p, 5));
                }
            }
        }
        taken("one son 1 1 1 1 1;one son 0 1 1 1 1;", 2);
    }

    private void debts() {
        check.says("4: one who OWES himself, who OWES him already (the second ONE)");
        for (int a = 0; a < 7; a++) {
            for (int b = 0; b < 7; b++) {
                String debt = "debt " + a + " " + b + " 1;";
                if (a == b) {
                    faulty(debt, 4, 7);
                    faulty(seven() + debt, 4, 126 + 7);
                } else {
                    taken(seven() + debt, 8);
                    faulty(seven() + debt + debt, 4, 126 + 18);
                    taken(seven() + debt + "debt " + b + " " + a + " 1;", 9);
                }
            }
        }
        faulty("debt 0 1 1;debt 1 0 1;debt 0 2 1;debt 0  1 1;", 4, 41);
    }

    private void eighth() {
        check.says("PEOPLE (7 at most, by order). 5: the 8th one (its NAME)");
        LetsIn x = new LetsIn();
        StringBuilder text = new StringBuilder();
        for (int p = 0; p < 7; p++) {
            check.due(p + " people", p, Check.tell(x, text.toString()));
            check.due("are there", p, x.rule(0));
            text.append("one plain ").append(p).append(" 1 1 1;");
        }
        check.due("7 people", 7, Check.tell(x, text.toString()));
        for (int p = 0; p < 7; p++) {
            check.due("by order", p, x.one(p, 1));
        }
        check.due("no 8th", BAD, x.one(7, 0));
        faulty(text + ONE, 5, 126);
        faulty(text + "  one", 5, 128);
        faulty(text + "law 1;" + ONE, 5, 132);
        taken(text + "law 1;", 8);
    }

    private void nobodyThere() {
        check.says("Behind all (the length): 6 a ONE that there is not");
        for (int people = 0; people < 7; people++) {
            String ones = ONE.repeat(people);
            for (int p = people; p < 7; p++) {
                faulty(ones + "debt " + p + " " + (p + 6) % 7 + " 1;", 6, 18 * people + 11);
                faulty("debt " + (p + 6) % 7 + " " + p + " 1;" + ones, 6, 18 * people + 11);
                if (people > 0 && p != people - 1) {
                    faulty(ONE.repeat(people - 1) + "one son " + p + " 1 1 1 1;", 6, 18 * people);
                    faulty(ONE.repeat(people - 1) + "one son " + p + " 1 1 1 1;    ", 6, 18 * people + 4);
                }
            }
            if (people >= 2) {
                int last = people - 1;
                taken("debt 0 " + last + " 1;debt " + last + " 0 1;" + ones, people + 2);
                taken("one son " + last + " 1 1 1 1;" + ONE.repeat(last), people);
            }
        }
        // what is met as it is read comes first
        faulty("debt 5 6 1;law 1;law 1;", 4, 17);
        faulty("debt 5 6 1;$", 1, 11);
        faulty("one son 6 1 1 1 1;one", 2, 21);
    }

    private void lines() {
        check.says("how many lines");
        taken("", 0);
        StringBuilder text = new StringBuilder(seven() + "law 1;");
        int lines = 8;
        for (int a = 0; a < 7; a++) {
            for (int b = 0; b < 7; b++) {
                if (a != b && text.length() + 11 <= 400) {
                    text.append("debt ").append(a).append(' ').append(b).append(" 1;");
                    lines++;
                    taken(text.toString(), lines);
                }
            }
        }
        check.due("as many as there is room for", 32, lines);
        taken(text + " ".repeat(400 - text.length()), 32);
        check.due("debts", 24, Check.townOf(text.toString()).count(0));
        faulty(text + "law;", 4, text.length());
    }

    private void tellsAll() {
        check.says("A text that is taken tells all, in place of what there was");
        LetsIn x = Check.townOf("law 1;counters 2;one son 1 9 9 9 9;one son 0 8 8 8 8;one rich 7 7 7 7;debt 0 1 9;"
                + "debt 2 0 9;");
        check.due("another", 2, Check.tell(x, "one plain 1 2 3 4;one proud 5 6 7 8;"));
        int[] rules = {2, 0, 1};
        for (int what = 0; what < 3; what++) {
            check.due("rule(" + what + ")", rules[what], x.rule(what));
        }
        int[][] want = {{0, 1, 2, 3, 4, NONE}, {2, 5, 6, 7, 8, NONE}};
        for (int p = 0; p < 2; p++) {
            for (int what = 0; what < 6; what++) {
                check.due("one(" + p + ", " + what + ")", want[p][what], x.one(p, what));
            }
        }
        check.due("nobody else", BAD, x.one(2, 0));
        check.due("no debts", 0, x.count(0));
        check.due("no debts", 0, x.count(1));
        check.due("an empty one", 0, Check.tell(x, ""));
        check.due("nobody", 0, x.rule(0));
        check.due("nobody", BAD, x.one(0, 0));
        check.due("then three", 3, Check.tell(x, ONE + ONE + ONE));
        check.due("no debts came back", 0, x.count(1));
    }

    private void goneAndStays() {
        for (String text : new String[] {"", " ", "law 1;", ONE, ONE + ONE + ONE}) {
            check.says("nothing is SEEN; IMAGES are gone");
            LetsIn x = Check.townOf(ONE + ONE);
            x.see(1);
            x.see(0);
            x.keep(0);
            x.keep(1);
            x.sheet(0, 1, 9);
            x.read(0, 0, 0, 1);
            check.holds("taken", Check.tell(x, text) >= 0);
            check.due("seen", 0, x.count(2));
            check.due("forget", 0, x.forget());
            check.due("images", 0, x.count(3));
            check.due("back", STATE, x.back(0));
            check.due("back", STATE, x.back(1));
            check.due("keep", 0, x.keep(0));
            check.due("keep", 0, x.keep(1));
            check.says("town() tells no SHEETS");
            check.due("cells", 9, x.count(5));
            check.due("torn", 3, x.torn());
            check.due("lay", 1, x.lay(0, 8, 1));
        }
    }

    private void nothingOfABrokenText() {
        check.says("-10 less the place of its FAULT: that which was told stays");
        LetsIn x = Check.townOf(ONE + "one plain 2 2 2 2;debt 0 1 5;");
        String[] broken = {"law 1;counters 2;one rich 9 9 9 9;one rich 9 9 9 9;one rich 9 9 9 9;debt 0 1 9;debt 1 0 9;$",
            "debt 0 1 7;debt 6 0 7;", "one", "counters 2;law 1;law 1;"};
        for (String text : broken) {
            check.holds(text, Check.tell(x, text) <= -10);
            int[] rules = {2, 0, 1};
            for (int what = 0; what < 3; what++) {
                check.due("rule(" + what + ")", rules[what], x.rule(what));
            }
            check.due("kind", 0, x.one(0, 0));
            check.due("comes", 2, x.one(1, 1));
            check.due("owes", 5, x.owes(0, 1));
            check.due("owes", 0, x.owes(1, 0));
            check.due("debts", 1, x.count(0));
        }
        check.says("0");
        check.due("then one is taken", 3, Check.tell(x, "counters 2;" + ONE + ONE));
        check.due("fault", 0, x.fault());
        check.due("with no debts of those", 0, x.count(0));
        check.due("with no law of those", 0, x.rule(1));
    }
}
