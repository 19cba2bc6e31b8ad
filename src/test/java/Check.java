/** What the tests of the project have in common: each compares answers and ends with 1 if one is wrong. */
final class Check {
    static final int NONE = -1, UNKNOWN = -1000000001, OUTSIDE = -1000000002, NOT = -1000000003, FULL = -1000000004;

    private static int wrong = 0;
    private static String sentence = "";

    private Check() { }

    /** The document's words that the answers behind this stand for; told with a wrong one. */
    static void says(String words) {
        sentence = words + ": ";
    }

    static void due(String call, int got, int want) {
        if (got != want) {
            fail(call + " answered " + got + ", due is " + want);
        }
    }

    static void fail(String why) {
        wrong++;
        System.out.println(sentence + why);
    }

    static void feed(SparrowChange x, String text) {
        for (int i = 0; i < text.length(); i++) {
            x.feed(text.charAt(i));
        }
    }

    static SparrowChange of(String text) {
        SparrowChange x = new SparrowChange();
        feed(x, text);
        int persons = x.parish();
        if (persons < 0) {
            fail("a text of the tests has a fault: " + text);
        }
        return x;
    }

    static boolean anyWrong() {
        return wrong != 0;
    }

    static void finish() {
        if (wrong != 0) {
            System.out.println(wrong + " wrong");
            System.exit(1);
        }
    }
}
