import java.nio.charset.StandardCharsets;

/** Counts answers that are not due; a test ends with exit code 1 if there was one. */
final class Check {
    private static final int MOST_TOLD = 40;

    private final String name;
    private int asked;
    private int wrong;
    private String sentence = "";

    Check(String name) {
        this.name = name;
    }

    /** What the document says, which is asked about from here on: told with each wrong answer. */
    void says(String sentence) {
        this.sentence = " (" + sentence + ")";
    }

    void due(String call, long want, long got) {
        asked++;
        if (got != want) {
            wrong++;
            if (wrong <= MOST_TOLD) {
                System.out.println(name + ": " + call + " answered " + got + ", due is " + want + sentence);
            }
        }
    }

    void holds(String what, boolean so) {
        due(what, 1, so ? 1 : 0);
    }

    boolean failed() {
        return wrong > 0;
    }

    void finish() {
        System.out.println(name + ": " + asked + " asked, " + wrong + " wrong");
        if (wrong > 0) {
            System.exit(1);
        }
    }

    /** Feeds a text to an empty TAPE and cuts what fills up the last eight bytes. */
    static void feed(LetsIn x, String text) {
        for (long eight : eights(text)) {
            x.feed(eight);
        }
        x.end(text.length());
    }

    static int tell(LetsIn x, String text) {
        feed(x, text);
        return x.town();
    }

    static LetsIn townOf(String text) {
        LetsIn x = new LetsIn();
        int lines = tell(x, text);
        if (lines < 0) {
            throw new IllegalStateException("the test's own text has a fault: " + lines + " " + text);
        }
        return x;
    }

    static long[] eights(String text) {
        byte[] bytes = text.getBytes(StandardCharsets.ISO_8859_1);
        long[] eights = new long[(bytes.length + 7) / 8];
        for (int i = 0; i < eights.length * 8; i++) {
            int b = i < bytes.length ? bytes[i] & 255 : ' ';
            eights[i / 8] = eights[i / 8] << 8 | b;
        }
        return eights;
    }
}
