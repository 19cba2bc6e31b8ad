/** The edges of promises 24 to 32: what is seen, the book, the seed, images. */
public final class SeenEdgesTest {
    private static final int[] FAR = {Integer.MIN_VALUE, -1000000001, -64, -32, -2, -1, 1 << 16, 1 << 30, Integer.MAX_VALUE};
    private static final String THREE = "t50 6;p0 20 5;p4 30 9;p2 25 40;";

    public static void main(String[] args) {
        watchBounds();
        whoFits();
        whoOfNobody();
        feelBounds();
        reachOfEachDistance();
        reachNone();
        fromParts();
        writeBounds();
        judgeFirst();
        tearAll();
        seedBounds();
        imagesUnknown();
        imagesNotKept();
        imagesEndUndoing();
        imagesHoldAll();
        imagesAgain();
        Check.finish();
    }

    private static void watchBounds() {
        Check.says("promise 24: n 0 .. 99; OUTSIDE, FULL (6)");
        SparrowChange x = Check.of(THREE);
        for (int far : FAR) {
            Check.due("watch " + far, x.watch(far), Check.OUTSIDE);
        }
        Check.due("watch 100", x.watch(100), Check.OUTSIDE);
        Check.due("nothing is watched", x.told(14), 0);
        int[] birds = {0, 99, 0, 1, 98, 50};
        for (int i = 0; i < 6; i++) {
            Check.due("watch nr " + (i + 1), x.watch(birds[i]), i + 1);
        }
        Check.due("a seventh", x.watch(0), Check.FULL);
        Check.due("outside is first", x.watch(100), Check.OUTSIDE);
        Check.due("six", x.told(14), 6);
        Check.due("all torn", x.tear(), 6);
        Check.due("again", x.watch(0), 1);
    }

    private static void whoFits() {
        Check.says("section 3: who: persons by whom all that is watched would be so");
        // by 0 fly 4 of the tenor, by the tenor 3 of 0, by the miser 7
        int[][] cases = {{4, 1}, {3, 2}, {7, 4}, {0, 0}, {5, 0}, {99, 0}};
        for (int[] c : cases) {
            SparrowChange x = Check.of(THREE);
            Check.due("nothing watched", x.told(13), 7);
            for (int i = 0; i < 6; i++) {
                x.watch(c[0]);
                Check.due("who, by " + c[0] + " times " + (i + 1), x.told(13), c[1]);
            }
        }
        SparrowChange x = Check.of(THREE);
        for (int i = 0; i < 5; i++) {
            x.watch(4);
        }
        Check.due("five alike", x.told(13), 1);
        x.watch(7);
        Check.due("the sixth is otherwise", x.told(13), 0);
        SparrowChange crumbs = Check.of(THREE);
        crumbs.strew(1, 99);
        crumbs.watch(4);
        Check.due("if nobody else had any crumbs", crumbs.told(13), 1);
        crumbs.net(1, true);
        Check.due("now a net holds the tenor's", crumbs.told(13), 0);
        crumbs.hawk(9, 0);
        crumbs.undo();
        crumbs.net(1, false);
        crumbs.hawk(9, 0);
        Check.due("now the tenor has none", crumbs.told(13), 0);
        SparrowChange many = Check.of("t999 6;p3 99 5;p2 0 9;");
        many.count(0, 400);
        many.watch(99);
        Check.due("100 would fly", many.told(13), 0);
    }

    private static void whoOfNobody() {
        Check.says("promise 24: watched without a parish, or without birds");
        SparrowChange none = new SparrowChange();
        Check.due("watch", none.watch(0), 1);
        Check.due("who", none.told(13), 0);
        SparrowChange nobody = Check.of("t5 5;");
        Check.due("watch", nobody.watch(0), 1);
        Check.due("who", nobody.told(13), 0);
        SparrowChange poor = Check.of("t5 5;" + "p0 0 0;".repeat(7));
        poor.watch(0);
        Check.due("who, of no birds", poor.told(13), 127);
        poor.watch(1);
        Check.due("who, of one bird", poor.told(13), 0);
    }

    private static void feelBounds() {
        Check.says("promise 25: x, y 0 .. 50; OUTSIDE, FULL (6)");
        SparrowChange x = new SparrowChange();
        for (int far : FAR) {
            Check.due("feel at " + far, x.feel(far, 0, true), Check.OUTSIDE);
            Check.due("felt at " + far, x.feel(0, far, true), Check.OUTSIDE);
            Check.says("promise 26: OUTSIDE");
            Check.due("reach " + far, x.reach(far), Check.OUTSIDE);
        }
        Check.says("promise 25: x, y 0 .. 50; OUTSIDE, FULL (6)");
        Check.due("feel at 51", x.feel(51, 50, false), Check.OUTSIDE);
        Check.due("felt at 51", x.feel(50, 51, false), Check.OUTSIDE);
        Check.due("reach 4", x.reach(4), Check.OUTSIDE);
        Check.due("nothing is felt", x.told(15), 0);
        for (int i = 1; i <= 6; i++) {
            Check.due("feel nr " + i, x.feel(0, 50, i % 2 == 0), i);
        }
        Check.due("a seventh", x.feel(0, 0, true), Check.FULL);
        Check.due("outside is first", x.feel(0, 51, true), Check.OUTSIDE);
        Check.due("outside is first", x.feel(-1, 0, true), Check.OUTSIDE);
        Check.due("six", x.told(15), 6);
        Check.due("all torn", x.tear(), 6);
        Check.due("again", x.feel(0, 0, true), 1);
    }

    private static void reaches(SparrowChange x, int many, int least, int greatest) {
        Check.due("how many", x.reach(0), many);
        Check.due("least", x.reach(1), least);
        Check.due("greatest", x.reach(2), greatest);
    }

    private static void reachOfEachDistance() {
        Check.says("section 3: those R doors off or less, and no others, feel it");
        for (int off = 0; off <= 50; off++) {
            SparrowChange near = new SparrowChange();
            near.feel(0, off, true);
            reaches(near, 51 - off, off, 50);
            SparrowChange other = new SparrowChange();
            other.feel(50, 50 - off, true);
            reaches(other, 51 - off, off, 50);
            SparrowChange far = new SparrowChange();
            far.feel(50 - off, 50, false);
            reaches(far, off, off == 0 ? Check.NONE : 0, off - 1);
        }
    }

    private static void reachNone() {
        Check.says("promise 26: NONE");
        SparrowChange x = new SparrowChange();
        x.feel(7, 7, false);
        reaches(x, 0, Check.NONE, Check.NONE);
        Check.due("from", x.reach(3), Check.NONE);
        x.tear();
        x.feel(10, 20, true);
        x.feel(20, 10, false);
        reaches(x, 0, Check.NONE, Check.NONE);
        Check.due("from", x.reach(3), Check.NONE);
        x.tear();
        x.feel(10, 20, true);
        x.feel(0, 11, false);
        reaches(x, 1, 10, 10);
        Check.due("from: none parts one", x.reach(3), Check.NONE);
        Check.says("promise 26: how many, the least and the greatest, if only the sixth felt matters");
        x.tear();
        for (int i = 0; i < 5; i++) {
            x.feel(0, 0, true);
        }
        reaches(x, 51, 0, 50);
        x.feel(0, 50, true);
        reaches(x, 1, 50, 50);
    }

    private static void fromParts() {
        Check.says("section 3: from: the greatest part that is alike is least; of like ones the least");
        SparrowChange x = new SparrowChange();
        Check.due("of 51: 25 and 26", x.reach(3), 25);
        x.feel(0, 50, false);
        Check.due("of 50: 25 and 25", x.reach(3), 25);
        x.feel(0, 2, false);
        Check.due("of 0 and 1", x.reach(3), 1);
        x.tear();
        x.feel(0, 49, true);
        Check.due("of 49 and 50", x.reach(3), 50);
        x.tear();
        x.feel(0, 3, false);
        Check.due("of 0, 1, 2 by 1 or 2", x.reach(3), 1);
    }

    private static void writeBounds() {
        Check.says("promise 27: an entry (0 .. 9999); UNKNOWN, OUTSIDE, FULL (15)");
        SparrowChange x = Check.of(THREE);
        for (int far : FAR) {
            Check.due("write of " + far, x.write(far, 0), Check.UNKNOWN);
            if (far < 0 || far > 9999) {
                Check.due("write " + far, x.write(0, far), Check.OUTSIDE);
            }
        }
        Check.due("person 3", x.write(3, 0), Check.UNKNOWN);
        Check.due("10000", x.write(0, 10000), Check.OUTSIDE);
        Check.due("no entry", x.told(16), 0);
        Check.due("0", x.write(0, 0), 1);
        Check.due("9999", x.write(2, 9999), 2);
        for (int i = 3; i <= 15; i++) {
            Check.due("entry " + i, x.write(0, 20), i);
        }
        Check.due("a sixteenth", x.write(0, 20), Check.FULL);
        Check.due("unknown is first", x.write(3, 20), Check.UNKNOWN);
        Check.due("outside is first", x.write(0, 10000), Check.OUTSIDE);
        Check.due("fifteen", x.told(16), 15);
        Check.due("without a parish", new SparrowChange().write(0, 0), Check.UNKNOWN);
    }

    private static void judgeFirst() {
        Check.says("section 3: wrong: the first that is otherwise now; NONE");
        Check.due("no parish", new SparrowChange().judge(), Check.NONE);
        int[] hats = {20, 30, 25};
        for (int at = 0; at < 15; at++) {
            SparrowChange x = Check.of(THREE);
            Check.due("no book", x.judge(), Check.NONE);
            for (int i = 0; i < 15; i++) {
                x.write(i % 3, hats[i % 3] + (i >= at ? 1 : 0));
            }
            Check.due("from entry " + at + " on", x.judge(), at);
        }
        SparrowChange x = Check.of(THREE);
        x.write(0, 20);
        x.write(0, 19);
        Check.due("the second", x.judge(), 1);
        x.pay(0, 1, 1);
        Check.due("now the first", x.judge(), 0);
        x.undo();
        Check.due("the second again", x.judge(), 1);
        x.tear();
        Check.due("no entries", x.judge(), Check.NONE);
    }

    private static void tearAll() {
        Check.says("promise 28: how much all had");
        SparrowChange x = Check.of(THREE);
        Check.due("nothing", x.tear(), 0);
        for (int i = 0; i < 6; i++) {
            x.watch(i);
            x.feel(i, i, true);
        }
        for (int i = 0; i < 15; i++) {
            x.write(0, 0);
        }
        x.strew(0, 5);
        Check.due("all that there can be", x.tear(), 27);
        Check.due("watched", x.told(14), 0);
        Check.due("felt", x.told(15), 0);
        Check.due("book", x.told(16), 0);
        Check.due("nothing", x.tear(), 0);
        Check.due("what is done stays", x.person(0, 3), 5);
        Check.due("what can be undone stays", x.told(17), 1);
        Check.due("without a parish", new SparrowChange().tear(), 0);
    }

    private static void seedBounds() {
        Check.says("promise 30: v (0 .. 2147483647): what it was; OUTSIDE");
        SparrowChange x = new SparrowChange();
        Check.due("0 at first", x.seed(2147483647), 0);
        for (int v : new int[] {-1, -2, Integer.MIN_VALUE, Integer.MIN_VALUE + 1}) {
            Check.due("seed " + v, x.seed(v), Check.OUTSIDE);
        }
        Check.due("what was refused changed nothing", x.seed(0), 2147483647);
        Check.due("0", x.seed(1), 0);
        Check.due("1", x.seed(2147483646), 1);
        Check.due("2147483646", x.seed(0), 2147483646);
    }

    private static void imagesUnknown() {
        Check.says("promises 31, 32: UNKNOWN");
        SparrowChange x = Check.of(THREE);
        x.strew(0, 5);
        for (int far : FAR) {
            Check.due("keep " + far, x.keep(far), Check.UNKNOWN);
            Check.due("goBack " + far, x.goBack(far), Check.UNKNOWN);
        }
        Check.due("keep 2", x.keep(2), Check.UNKNOWN);
        Check.due("goBack 2", x.goBack(2), Check.UNKNOWN);
        Check.due("what was refused ends no undoing", x.told(17), 1);
    }

    private static void imagesNotKept() {
        Check.says("promise 32: NOT: it was not kept");
        for (int i = 0; i <= 1; i++) {
            SparrowChange x = Check.of(THREE);
            Check.due("goBack " + i, x.goBack(i), Check.NOT);
            x.keep(1 - i);
            x.strew(0, 5);
            Check.due("the other one was kept", x.goBack(i), Check.NOT);
            Check.due("nothing changed", x.person(0, 3), 5);
            Check.due("it can be undone yet", x.told(17), 1);
            x.keep(i);
            Check.feed(x, THREE);
            x.parish();
            Check.due("a new parish", x.goBack(i), Check.NOT);
            x.keep(i);
            Check.feed(x, "x");
            x.parish();
            Check.due("a text with a fault", x.goBack(i), 1);
        }
    }

    private static void imagesEndUndoing() {
        Check.says("promises 31, 32: nothing can be undone then");
        SparrowChange x = Check.of(THREE);
        for (int i = 0; i < 20; i++) {
            x.strew(0, 1);
        }
        Check.due("keep", x.keep(0), 1);
        Check.due("can be undone", x.told(17), 0);
        Check.due("undo", x.undo(), Check.NOT);
        for (int i = 1; i <= 3; i++) {
            x.strew(0, 1);
            Check.due("can be undone", x.told(17), i);
        }
        Check.due("goBack", x.goBack(0), 1);
        Check.due("can be undone", x.told(17), 0);
        Check.due("undo", x.undo(), Check.NOT);
        Check.due("crumbs", x.person(0, 3), 20);
        x.strew(0, 1);
        Check.due("undo", x.undo(), 0);
        Check.due("crumbs", x.person(0, 3), 20);
    }

    /** All of section 2 in one row; the last is the seed, which stays as it was. */
    private static int[] state(SparrowChange x) {
        int[] all = new int[61];
        int n = 0;
        for (int what = 0; what <= 12; what++) {
            all[n++] = x.told(what);
        }
        for (int p = 0; p < 3; p++) {
            for (int what = 1; what <= 8; what++) {
                all[n++] = x.person(p, what);
            }
        }
        for (int i = 0; i <= 20; i++) {
            all[n++] = x.trace(i);
        }
        all[n++] = x.debt(0, 2);
        all[n++] = x.debt(1, 2);
        int seed = x.seed(0);
        x.seed(seed);
        all[n++] = seed;
        return all;
    }

    private static void same(String what, int[] got, int[] want) {
        for (int i = 0; i < want.length; i++) {
            Check.due(what + ", answer " + i, got[i], want[i]);
        }
    }

    private static void imagesHoldAll() {
        Check.says("section 3: images 0, 1 keep all of section 2, the seed");
        SparrowChange x = Check.of(THREE + "d0 1 9;d1 2 20;");
        x.seed(5);
        x.pay(1, 2, 7);
        x.strew(2, 50);
        x.net(0, true);
        x.drift(3);
        int[] first = state(x);
        x.keep(1);
        x.net(1, true);
        x.drift(20);
        x.count(0, 9);
        x.pay(0, 1, 5);
        int[] second = state(x);
        x.keep(0);
        x.hawk(20, 50);
        x.hour(9);
        x.watch(1);
        Check.due("back to image 1", x.goBack(1), 1);
        same("image 1", state(x), first);
        Check.due("what is seen is no part of it", x.told(14), 1);
        Check.due("on to image 0", x.goBack(0), 1);
        same("image 0", state(x), second);
        x.drift(5);
        x.goBack(1);
        same("image 1 again", state(x), first);
    }

    private static void imagesAgain() {
        Check.says("promise 31: image i becomes what is so");
        SparrowChange x = Check.of(THREE);
        x.keep(0);
        x.strew(0, 5);
        x.keep(0);
        x.strew(0, 5);
        x.goBack(0);
        Check.due("the later one", x.person(0, 3), 5);
        x.strew(0, 7);
        x.goBack(0);
        Check.due("it is not worn", x.person(0, 3), 5);
        Check.says("promises 31, 32: without a parish nothing is refused");
        SparrowChange none = new SparrowChange();
        none.seed(8);
        Check.due("keep", none.keep(1), 1);
        none.seed(9);
        Check.due("goBack", none.goBack(1), 1);
        Check.due("the seed", none.seed(0), 8);
        Check.due("where the ringed one is", none.told(8), Check.NONE);
        Check.due("trace", none.told(9), 0);
    }
}
