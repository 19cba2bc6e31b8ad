import java.util.Random;

/** What is promised holds up to the 512th call: hours beyond 9000, against the model, with all that is asked compared. */
public final class LongRunsTest {
    private static final int LAST_CALL = 512;
    private static final int RUNS = 40;
    private static final String[] TEXTS = {
        "t50 6;p0 20 5;p1 30 9;p2 25 40;p3 7 12;p4 12 3;d0 3 18;d3 1 20;d1 4 9;d4 0 30;",
        "t999 24;p4 99 0;p4 99 50;p2 99 25;p2 0 25;p3 99 10;p1 99 11;p0 99 12;d0 1 99;d1 0 99;d2 3 50;",
        "t0 1;p0 1 0;p2 1 50;d0 1 1;",
        "t999 7;p2 0 3;p2 0 30;p4 0 44;",
        "t9 23;",
        "t0 5;p0 0 1;p3 0 2;d1 0 7;"};

    private final Random random;
    private final SparrowChange x = new SparrowChange();
    private final Model m = new Model();
    private final int way;
    private int calls = 0;

    private LongRunsTest(int run) {
        random = new Random(run);
        way = run % 4;
    }

    public static void main(String[] args) {
        for (int run = 0; run < RUNS && !Check.anyWrong(); run++) {
            Check.says("up to the 512th call, run " + run);
            new LongRunsTest(run).go(TEXTS[run % TEXTS.length]);
        }
        Check.finish();
    }

    private void go(String text) {
        for (int i = 0; i < text.length(); i++) {
            due("feed", x.feed(text.charAt(i)), m.feed(text.charAt(i)));
        }
        due("parish", x.parish(), m.parish());
        due("seed", x.seed(way * 77), m.seed(way * 77));
        while (calls < LAST_CALL && !Check.anyWrong()) {
            if (random.nextInt(5) < 3) {
                longHours();
            } else if (random.nextInt(4) == 0) {
                smallDeed();
            } else {
                ask();
            }
        }
    }

    private void due(String call, int got, int want) {
        calls++;
        Check.due(call + " as call " + calls, got, want);
    }

    /** Some runs only go on, some come back by undo() or images when 9000 hours are over. */
    private void longHours() {
        boolean over = m.told(4) > 9000;
        if (over && way == 1 && random.nextInt(3) == 0) {
            due("undo", x.undo(), m.undo());
        } else if (over && way == 2 && random.nextInt(3) == 0) {
            due("goBack", x.goBack(0), m.goBack(0));
        } else if (way == 2 && m.told(4) > 8000 && !over && random.nextInt(5) == 0) {
            due("keep", x.keep(0), m.keep(0));
        } else if (random.nextInt(3) == 0) {
            due("hour", x.hour(60), m.hour(60));
        } else {
            due("drift", x.drift(60), m.drift(60));
        }
    }

    private void smallDeed() {
        int p = random.nextInt(7);
        int q = random.nextInt(7);
        int n = 1 + random.nextInt(40);
        switch (random.nextInt(5)) {
            case 0: due("count", x.count(p, n), m.count(p, n)); break;
            case 1: due("pay", x.pay(p, q, n), m.pay(p, q, n)); break;
            case 2: due("strew", x.strew(p, n), m.strew(p, n)); break;
            case 3: due("net", x.net(p, n > 20), m.net(p, n > 20)); break;
            default: due("hawk", x.hawk(n, p), m.hawk(n, p)); break;
        }
    }

    private void ask() {
        int what = random.nextInt(18);
        int p = random.nextInt(7);
        int i = random.nextInt(21);
        switch (random.nextInt(6)) {
            case 0: due("trace " + i, x.trace(i), m.trace(i)); break;
            case 1: due("person " + p, x.person(p, what % 10), m.person(p, what % 10)); break;
            case 2: due("hat " + p, x.hat(p, i * 5), m.hat(p, i * 5)); break;
            case 3: due("kept " + p, x.kept(p), m.kept(p)); break;
            case 4: due("seed", x.seed(i), m.seed(i)); break;
            default: due("told " + what, x.told(what), m.told(what)); break;
        }
    }
}
