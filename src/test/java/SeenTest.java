/** Promises 24 to 32: what is seen, draws, images. */
public final class SeenTest {
    private static final String ROUND = "t50 6;p0 20 5;p1 30 9;p2 25 40;p3 7 12;p4 12 3;";

    public static void main(String[] args) {
        watching();
        feeling();
        parting();
        writing();
        tearing();
        seeding();
        images();
        imagesWithoutParish();
        Check.finish();
    }

    private static void watching() {
        SparrowChange x = Check.of(ROUND);
        Check.due("outside", x.watch(-1), Check.OUTSIDE);
        Check.due("outside", x.watch(100), Check.OUTSIDE);
        Check.due("by anybody", x.told(13), 31);
        Check.due("one", x.watch(7), 1);
        Check.due("by 1, 3, 4", x.told(13), 26);
        x.strew(4, 9);
        Check.due("as if there were no other crumbs", x.told(13), 26);
        x.net(3, true);
        Check.due("a net loses nothing: 7 in all now", x.told(13), 4 + 8);
        x.undo();
        Check.due("two", x.watch(7), 2);
        Check.due("twice the same", x.told(13), 26);
        Check.due("three", x.watch(6), 3);
        Check.due("not both", x.told(13), 0);
        x.watch(0);
        x.watch(99);
        Check.due("six", x.watch(1), 6);
        Check.due("full", x.watch(1), Check.FULL);
        Check.due("outside first", x.watch(100), Check.OUTSIDE);
        Check.due("six", x.told(14), 6);
        SparrowChange nobody = new SparrowChange();
        Check.due("without a parish", nobody.watch(0), 1);
        Check.due("nobody", nobody.told(13), 0);
    }

    private static void feeling() {
        SparrowChange x = new SparrowChange();
        Check.due("outside x", x.feel(-1, 0, true), Check.OUTSIDE);
        Check.due("outside x", x.feel(51, 0, true), Check.OUTSIDE);
        Check.due("outside y", x.feel(0, -1, false), Check.OUTSIDE);
        Check.due("outside y", x.feel(0, 51, false), Check.OUTSIDE);
        Check.due("outside what", x.reach(-1), Check.OUTSIDE);
        Check.due("outside what", x.reach(4), Check.OUTSIDE);
        reaches(x, 51, 0, 50, 25);
        Check.due("felt", x.feel(30, 20, true), 1);
        reaches(x, 41, 10, 50, 30);
        Check.due("not felt", x.feel(50, 0, false), 2);
        reaches(x, 40, 10, 49, 30);
        x.feel(5, 17, false);
        reaches(x, 2, 10, 11, 11);
        x.feel(5, 16, true);
        reaches(x, 1, 11, 11, Check.NONE);
        x.feel(9, 9, false);
        reaches(x, 0, Check.NONE, Check.NONE, Check.NONE);
        Check.due("six", x.feel(0, 0, true), 6);
        Check.due("full", x.feel(0, 0, true), Check.FULL);
        Check.due("outside first", x.feel(0, 51, true), Check.OUTSIDE);
        Check.due("six", x.told(15), 6);
    }

    private static void reaches(SparrowChange x, int many, int least, int greatest, int from) {
        Check.due("how many", x.reach(0), many);
        Check.due("least", x.reach(1), least);
        Check.due("greatest", x.reach(2), greatest);
        Check.due("from", x.reach(3), from);
    }

    private static void parting() {
        for (int low = 0; low <= 50; low++) {
            for (int high = low; high <= 50; high++) {
                SparrowChange x = new SparrowChange();
                x.feel(0, low, true);
                if (high < 50) {
                    x.feel(50, 49 - high, false);
                }
                int all = high - low + 1;
                // the lower part is cut, so that the least door is taken of two that part alike
                reaches(x, all, low, high, all == 1 ? Check.NONE : low + all / 2);
            }
        }
    }

    private static void writing() {
        SparrowChange x = Check.of(ROUND);
        Check.due("unknown", x.write(5, -1), Check.UNKNOWN);
        Check.due("outside", x.write(0, -1), Check.OUTSIDE);
        Check.due("outside", x.write(0, 10000), Check.OUTSIDE);
        Check.due("nothing wrong", x.judge(), Check.NONE);
        Check.due("one", x.write(0, 20), 1);
        Check.due("two", x.write(4, 12), 2);
        Check.due("right", x.judge(), Check.NONE);
        Check.due("three", x.write(2, 24), 3);
        Check.due("four", x.write(1, 9999), 4);
        Check.due("the first wrong", x.judge(), 2);
        x.pay(4, 0, 1);
        Check.due("now an earlier one", x.judge(), 0);
        x.undo();
        Check.due("as ahead", x.judge(), 2);
        for (int i = 5; i <= 15; i++) {
            Check.due("nr " + i, x.write(0, 0), i);
        }
        Check.due("full", x.write(0, 0), Check.FULL);
        Check.due("outside first", x.write(0, -1), Check.OUTSIDE);
        Check.due("unknown first", x.write(7, 0), Check.UNKNOWN);
        Check.due("fifteen", x.told(16), 15);
    }

    private static void tearing() {
        SparrowChange x = Check.of(ROUND);
        Check.due("nothing", x.tear(), 0);
        x.watch(1);
        x.feel(1, 2, true);
        x.feel(1, 2, false);
        x.write(0, 1);
        x.write(0, 2);
        x.write(0, 3);
        Check.due("all", x.tear(), 6);
        Check.due("watched", x.told(14), 0);
        Check.due("felt", x.told(15), 0);
        Check.due("book", x.told(16), 0);
        Check.due("who", x.told(13), 31);
        Check.due("reach", x.reach(0), 51);
        Check.due("judge", x.judge(), Check.NONE);
        Check.due("nothing", x.tear(), 0);
    }

    private static void seeding() {
        SparrowChange x = new SparrowChange();
        Check.due("outside", x.seed(-1), Check.OUTSIDE);
        Check.due("outside", x.seed(Integer.MIN_VALUE), Check.OUTSIDE);
        Check.due("0 at first", x.seed(Integer.MAX_VALUE), 0);
        Check.due("the greatest", x.seed(3), Integer.MAX_VALUE);
        Check.due("what it was", x.seed(0), 3);
    }

    private static void images() {
        SparrowChange x = Check.of(ROUND + "d0 1 9;");
        Check.due("unknown", x.keep(2), Check.UNKNOWN);
        Check.due("unknown", x.keep(-1), Check.UNKNOWN);
        Check.due("unknown", x.goBack(2), Check.UNKNOWN);
        Check.due("unknown", x.goBack(-1), Check.UNKNOWN);
        Check.due("not kept", x.goBack(0), Check.NOT);
        x.seed(5);
        x.strew(0, 1);
        Check.due("kept", x.keep(1), 1);
        Check.due("nothing can be undone", x.told(17), 0);
        Check.due("nothing can be undone", x.undo(), Check.NOT);
        x.pay(0, 1, 4);
        x.net(3, true);
        x.hour(2);
        x.seed(6);
        Check.due("kept", x.keep(0), 1);
        x.drift(9);
        x.watch(4);
        Check.due("refused", x.goBack(7), Check.UNKNOWN);
        Check.due("can be undone yet", x.told(17), 1);
        Check.due("back to 1", x.goBack(1), 1);
        Check.due("nothing can be undone", x.told(17), 0);
        Check.due("watched stays", x.told(14), 1);
        Check.due("hat", x.person(0, 1), 20);
        Check.due("debt", x.debt(0, 2), 9);
        Check.due("crumbs", x.person(0, 3), 1);
        Check.due("nets", x.told(7), 0);
        Check.due("hours", x.told(4), 0);
        Check.due("trace", x.told(9), 1);
        Check.due("seed", x.seed(1), 5);
        Check.due("on to 0", x.goBack(0), 1);
        Check.due("hours", x.told(4), 2);
        Check.due("debt", x.debt(0, 2), 5);
        Check.due("nets", x.told(7), 8);
        Check.due("seed", x.seed(1), 6);
        x.hour(1);
        Check.due("again", x.goBack(0), 1);
        Check.due("an image is not worn by going on", x.told(4), 2);
    }

    private static void imagesWithoutParish() {
        SparrowChange x = new SparrowChange();
        x.seed(8);
        Check.due("kept", x.keep(0), 1);
        x.seed(9);
        Check.due("back", x.goBack(0), 1);
        Check.due("seed", x.seed(0), 8);
        Check.due("no parish", x.told(8), Check.NONE);
        Check.due("the other", x.goBack(1), Check.NOT);
    }
}
