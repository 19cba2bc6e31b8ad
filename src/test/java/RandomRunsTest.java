import java.util.Random;

/** All calls in random runs of at most 512, against the model; the first wrong answer of a run is told. */
public final class RandomRunsTest {
    private static final int RUNS = 3000;
    private static final int[] FAR = {Integer.MIN_VALUE, Integer.MIN_VALUE + 1, -1000000001, -65, -32, -2, -1, 7, 9, 16, 31,
        32, 33, 51, 61, 100, 101, 256, 1000, 10000, 65536, Integer.MAX_VALUE - 1, Integer.MAX_VALUE};

    private final Random random;
    private final SparrowChange x = new SparrowChange();
    private final Model m = new Model();
    private int calls = 0;
    private int debts = 0;

    private RandomRunsTest(long which) {
        random = new Random(which);
    }

    public static void main(String[] args) {
        for (int run = 0; run < RUNS && !Check.anyWrong(); run++) {
            new RandomRunsTest(run).go(run);
        }
        Check.finish();
    }

    private void go(int run) {
        boolean goodText = random.nextInt(5) != 0;
        while (calls < 512 && !Check.anyWrong()) {
            if (calls == 0 ? goodText : random.nextInt(60) == 0) {
                tell(random.nextInt(3) == 0 ? spoil(text()) : text());
            }
            step();
        }
        if (Check.anyWrong()) {
            System.out.println("in run " + run + ", call " + calls);
        }
    }

    private void due(String call, int got, int want) {
        calls++;
        if (!Check.anyWrong()) {
            Check.due(call, got, want);
        }
    }

    private int upTo(int greatest) {
        return random.nextInt(greatest + 1);
    }

    /** Mostly within the bounds, at times at their edges, at times far outside. */
    private int about(int least, int greatest) {
        int kind = random.nextInt(20);
        if (kind == 0) {
            return FAR[random.nextInt(FAR.length)];
        }
        if (kind == 1) {
            return least - 1;
        }
        if (kind == 2) {
            return greatest + 1;
        }
        return kind == 3 ? least : kind == 4 ? greatest : least + random.nextInt(greatest - least + 1);
    }

    private String text() {
        StringBuilder s = new StringBuilder();
        int persons = upTo(7);
        debts = persons < 2 ? 0 : random.nextInt(12) == 0 ? upTo(9) : upTo(6);
        s.append('t').append(random.nextBoolean() ? upTo(999) : upTo(30)).append(' ').append(1 + upTo(23)).append(';');
        for (int p = 0; p < persons; p++) {
            s.append('p').append(upTo(4)).append(' ').append(random.nextInt(5) == 0 ? 0 : random.nextBoolean() ? upTo(99) : upTo(12));
            s.append(' ').append(upTo(50)).append(random.nextInt(6) == 0 ? " ;" : ";");
        }
        for (int d = 0; d < debts; d++) {
            int a = random.nextInt(persons);
            int b = (a + 1 + random.nextInt(persons - 1)) % persons;
            s.append('d').append(a).append(' ').append(b).append(' ').append(1 + upTo(random.nextBoolean() ? 98 : 15)).append(';');
        }
        return s.toString();
    }

    private String spoil(String good) {
        StringBuilder s = new StringBuilder(good);
        for (int i = upTo(2); i >= 0; i--) {
            int at = random.nextInt(s.length());
            char letter = "tpd;;  0123456789x\t\u00ff".charAt(random.nextInt(20));
            switch (random.nextInt(4)) {
                case 0: s.setCharAt(at, letter); break;
                case 1: s.insert(at, letter); break;
                case 2: s.deleteCharAt(at); break;
                default: s.setLength(at + 1); break;
            }
            if (s.length() == 0) {
                s.append(' ');
            }
        }
        return s.toString();
    }

    private void tell(String s) {
        for (int i = 0; i < s.length(); i++) {
            due("feed", x.feed(s.charAt(i)), m.feed(s.charAt(i)));
        }
        due("parish of " + s, x.parish(), m.parish());
        due("fault of " + s, x.fault(), m.fault());
        debts = m.told(2);
    }

    private void step() {
        if (random.nextInt(3) == 0) {
            done();
        } else if (random.nextInt(3) == 0) {
            tried();
        } else if (random.nextInt(3) == 0) {
            seen();
        } else {
            asked();
        }
    }

    private void asked() {
        int a = about(0, 6);
        int b = about(0, 9);
        int w = about(0, 17);
        int i = about(0, 19);
        switch (random.nextInt(6)) {
            case 0: due("person " + a + " " + b, x.person(a, b), m.person(a, b)); break;
            case 1: due("debt " + b + " " + (a - 2), x.debt(b, a - 2), m.debt(b, a - 2)); break;
            case 2: due("trace " + i, x.trace(i), m.trace(i)); break;
            case 3: due("fault", x.fault(), m.fault()); break;
            default: due("told " + w, x.told(w), m.told(w)); break;
        }
    }

    private void done() {
        int p = about(0, 6);
        int q = about(0, 6);
        int few = about(1, 30);
        int hours = random.nextInt(4) == 0 ? about(1, 60) : about(1, 4);
        int door = about(0, 50);
        boolean is = random.nextBoolean();
        switch (random.nextInt(9)) {
            case 0: due("count " + p + " " + few, x.count(p, few), m.count(p, few)); break;
            case 1: due("count " + p + " " + few, x.count(p, few), m.count(p, few)); break;
            case 2: due("pay " + p + " " + q + " " + few, x.pay(p, q, few), m.pay(p, q, few)); break;
            case 3: due("strew " + p + " " + few, x.strew(p, few), m.strew(p, few)); break;
            case 4: due("net " + p + " " + is, x.net(p, is), m.net(p, is)); break;
            case 5: due("hawk " + door + " " + (few - 1), x.hawk(door, few - 1), m.hawk(door, few - 1)); break;
            case 6: due("hour " + hours, x.hour(hours), m.hour(hours)); break;
            case 7: due("drift " + hours, x.drift(hours), m.drift(hours)); break;
            default: due("undo", x.undo(), m.undo()); break;
        }
    }

    private void tried() {
        int p = about(0, 6);
        int n = random.nextInt(4) == 0 ? about(0, 100) : about(0, 10);
        int what = about(0, 1);
        int all = Math.max(0, m.told(6));
        int birds = random.nextInt(4) == 0 ? about(0, 9999) : upTo(all);
        int h = random.nextInt(3) == 0 ? about(1, 24) : about(1, 5);
        // the model tries every row: too slow for many debts each time
        boolean few = debts <= 5 || random.nextInt(40) == 0;
        switch (random.nextInt(7)) {
            case 0: due("hat " + p + " " + n, x.hat(p, n), m.hat(p, n)); break;
            case 1: due("most " + p + " " + n + " " + what, x.most(p, n, what), m.most(p, n, what)); break;
            case 2: due("kept " + p, x.kept(p), m.kept(p)); break;
            case 3: if (few) due("settled " + what, x.settled(what), m.settled(what)); break;
            case 4: if (debts <= 5) due("toFloat " + p, x.toFloat(p), m.toFloat(p)); break;
            case 5: if (random.nextInt(4) == 0) due("nets " + birds + " " + h, x.nets(birds, h), m.nets(birds, h)); break;
            default: due("calm " + n + " " + birds, x.calm(n, birds), m.calm(n, birds)); break;
        }
    }

    private void seen() {
        int p = about(0, 6);
        int birds = random.nextInt(3) == 0 ? about(0, 9999) : random.nextInt(5) == 0 ? 3 : Math.max(0, m.person(p, 1));
        int n = about(0, 99);
        int a = about(0, 50);
        int b = about(0, 50);
        boolean is = Math.abs((long) a - b) < 25 != (random.nextInt(9) == 0);
        int small = about(0, 3);
        int image = about(0, 1);
        int v = random.nextBoolean() ? random.nextInt() : upTo(9);
        switch (random.nextInt(11)) {
            case 0: due("watch " + n, x.watch(n % 13), m.watch(n % 13)); break;
            case 1: due("watch " + n, x.watch(n), m.watch(n)); break;
            case 2: due("feel " + a + " " + b + " " + is, x.feel(a, b, is), m.feel(a, b, is)); break;
            case 3: due("reach " + small, x.reach(small), m.reach(small)); break;
            case 4: due("reach " + small, x.reach(small), m.reach(small)); break;
            case 5: due("write " + p + " " + birds, x.write(p, birds), m.write(p, birds)); break;
            case 6: due("judge", x.judge(), m.judge()); break;
            case 7: if (random.nextInt(3) == 0) due("tear", x.tear(), m.tear()); break;
            case 8: due("seed " + v, x.seed(v), m.seed(v)); break;
            case 9: if (random.nextInt(3) == 0) due("keep " + image, x.keep(image), m.keep(image)); break;
            default: if (random.nextInt(3) == 0) due("goBack " + image, x.goBack(image), m.goBack(image)); break;
        }
    }
}
