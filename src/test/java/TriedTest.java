/** Promises 17 to 23: what is tried, and that nothing changes by it. */
public final class TriedTest {
    private static final String ROUND = "t50 6;p0 20 5;p1 30 9;p2 25 40;p3 7 12;p4 12 3;d0 3 18;d3 1 20;d1 4 9;d4 0 30;";

    public static void main(String[] args) {
        hats();
        mosts();
        keeping();
        settling();
        floats();
        nets();
        calm();
        nothingChanges();
        Check.finish();
    }

    private static void hats() {
        SparrowChange x = Check.of(ROUND);
        Check.due("unknown", x.hat(5, 101), Check.UNKNOWN);
        Check.due("unknown", x.hat(-1, 0), Check.UNKNOWN);
        Check.due("outside", x.hat(0, -1), Check.OUTSIDE);
        Check.due("outside", x.hat(0, 101), Check.OUTSIDE);
        int[] due = {20, 17, 15, 13, 11, 9, 0, 0};
        for (int n = 0; n < due.length; n++) {
            Check.due("hat behind " + n, x.hat(0, n), due[n]);
        }
        Check.due("a miser's", x.hat(2, 100), 25);
        x.strew(2, 50);
        Check.due("drawn by the miser", x.hat(2, 1), 34);
        Check.due("kept through dusk", x.hat(2, 6), 25 + drawnInSixHours());
    }

    /** By 50 crumbs (25, 12, 6, 3, 1) the miser draws in all six hours what 0, 1, 3 and 4 lose. */
    private static int drawnInSixHours() {
        return (20 - 8) + (30 - 23) + (7 - 0) + (12 - 4);
    }

    private static void mosts() {
        SparrowChange x = Check.of(ROUND);
        Check.due("unknown", x.most(5, -1, 2), Check.UNKNOWN);
        Check.due("outside n", x.most(0, 101, 0), Check.OUTSIDE);
        Check.due("outside n", x.most(0, -1, 0), Check.OUTSIDE);
        Check.due("outside what", x.most(0, 0, 2), Check.OUTSIDE);
        Check.due("outside what", x.most(0, 0, -1), Check.OUTSIDE);
        Check.due("now", x.most(0, 100, 0), 0);
        Check.due("now", x.most(0, 100, 1), 20);
        Check.due("of like ones the first", x.most(2, 100, 0), 0);
        x.strew(4, 3);
        // it draws 7 in the first hour, 5 in the second by one crumb, and loses then
        Check.due("not all hours", x.most(4, 1, 0), 1);
        Check.due("not all hours", x.most(4, 1, 1), 19);
        Check.due("behind", x.most(4, 100, 0), 2);
        Check.due("birds", x.most(4, 100, 1), 24);
    }

    private static void keeping() {
        SparrowChange x = Check.of(ROUND);
        Check.due("unknown", x.kept(5), Check.UNKNOWN);
        Check.due("unknown", x.kept(-1), Check.UNKNOWN);
        Check.due("six hours", x.kept(0), 8);
        x.hour(5);
        Check.due("the sixth", x.kept(0), 8);
        x.hour(1);
        x.count(0, 20);
        Check.due("the next dusk", x.kept(0), 8);
        SparrowChange each = Check.of("t5 1;p0 20 0;p2 3 0;");
        Check.due("dusk each hour", each.kept(0), 17);
        Check.due("a miser", each.kept(1), 3);
        SparrowChange late = Check.of("t5 24;p3 99 0;p2 0 0;");
        late.net(0, true);
        Check.due("24 hours with a net", late.kept(0), 99);
    }

    private static void settling() {
        SparrowChange x = Check.of(ROUND);
        Check.due("outside", x.settled(-1), Check.OUTSIDE);
        Check.due("outside", x.settled(2), Check.OUTSIDE);
        Check.due("three", x.settled(0), 3);
        Check.due("row", x.settled(1), 123);
        SparrowChange nobody = Check.of("t5 5;");
        Check.due("no debts", nobody.settled(0), 0);
        Check.due("no row", nobody.settled(1), 0);
        SparrowChange order = Check.of("t5 5;p0 0 0;p0 0 0;p0 5 0;d0 1 5;d1 2 5;d2 0 5;");
        Check.due("the last first", order.settled(0), 3);
        Check.due("the last first", order.settled(1), 312);
        SparrowChange choice = Check.of("t5 5;p0 10 0;p0 0 0;p0 0 0;d0 1 9;d0 1 5;d0 2 5;");
        Check.due("two small ones for a great one", choice.settled(0), 2);
        Check.due("two small ones for a great one", choice.settled(1), 23);
        SparrowChange one = Check.of("t5 5;p0 5 0;p0 0 0;d0 1 5;d0 1 4;");
        Check.due("one of two", one.settled(0), 1);
        Check.due("the least of like ones", one.settled(1), 1);
        SparrowChange longer = Check.of("t5 5;p0 5 0;p0 0 0;p0 0 0;d0 1 5;d0 2 5;d2 0 1;");
        Check.due("the longer row, not the least figure first", longer.settled(0), 2);
        Check.due("the longer row", longer.settled(1), 23);
        longer.pay(0, 1, 2);
        Check.due("what is owed yet counts", longer.settled(1), 1);
        longer.pay(0, 1, 3);
        Check.due("what is paid is left out", longer.settled(0), 0);
        Check.due("what is paid is left out", longer.settled(1), 0);
    }

    private static void floats() {
        SparrowChange x = Check.of(ROUND);
        Check.due("unknown", x.toFloat(5), Check.UNKNOWN);
        Check.due("unknown", x.toFloat(-1), Check.UNKNOWN);
        int[] due = {Check.NONE, Check.NONE, Check.NONE, Check.NONE, 9};
        for (int p = 0; p < due.length; p++) {
            Check.due("float of " + p, x.toFloat(p), due[p]);
        }
        Check.due("no debts", Check.of("t5 5;p0 0 0;").toFloat(0), 0);
        SparrowChange ring = Check.of("t5 5;p0 0 0;p0 0 0;p0 1 0;d0 1 7;d1 2 7;d2 0 7;");
        Check.due("who begins needs all", ring.toFloat(0), 7);
        Check.due("who begins needs all", ring.toFloat(1), 7);
        Check.due("who has one needs less", ring.toFloat(2), 6);
        SparrowChange much = Check.of("t5 5;p0 0 0;p0 0 0;" + "d0 1 99;".repeat(9));
        Check.due("nine of 99", much.toFloat(0), 891);
        Check.due("another's do not help", much.toFloat(1), Check.NONE);
        SparrowChange cheap = Check.of("t5 5;p0 4 0;p0 0 0;p0 9 0;d0 1 9;d2 0 5;");
        Check.due("paid in the best order", cheap.toFloat(0), 0);
        Check.due("paid in the best order", cheap.toFloat(1), 0);
    }

    private static void nets() {
        SparrowChange x = Check.of(ROUND);
        Check.due("outside", x.nets(-1, 1), Check.OUTSIDE);
        Check.due("outside", x.nets(10000, 1), Check.OUTSIDE);
        Check.due("outside", x.nets(0, 0), Check.OUTSIDE);
        Check.due("outside", x.nets(0, 25), Check.OUTSIDE);
        Check.due("none needed", x.nets(85, 1), 0);
        Check.due("the one that loses 3", x.nets(88, 1), 1);
        Check.due("of like ones the least", x.nets(87, 1), 1);
        Check.due("two", x.nets(90, 1), 3);
        Check.due("all", x.nets(94, 1), 27);
        Check.due("not to be had", x.nets(95, 1), Check.NONE);
        Check.due("not to be had", x.nets(9999, 24), Check.NONE);
        Check.due("dusk is no matter of nets", x.nets(26, 6), Check.NONE);
        x.net(0, true);
        Check.due("besides those there are", x.nets(90, 1), 2);
        Check.due("besides those there are", x.nets(88, 1), 0);
        SparrowChange nobody = Check.of("t5 5;");
        Check.due("nought of nobody", nobody.nets(0, 1), 0);
        Check.due("one of nobody", nobody.nets(1, 1), Check.NONE);
        SparrowChange second = Check.of("t5 5;p1 9 0;p0 50 0;");
        Check.due("not the first", second.nets(59, 1), 2);
        SparrowChange seven = Check.of("t5 5;" + "p0 5 0;".repeat(7));
        Check.due("all seven", seven.nets(35, 4), 127);
        Check.due("six of seven", seven.nets(34, 1), 63);
        SparrowChange drawn = Check.of("t5 2;p2 0 0;p0 50 0;");
        drawn.strew(0, 9);
        drawn.net(1, true);
        Check.due("a net can hinder: nothing comes to the miser", drawn.nets(1, 2), Check.NONE);
        drawn.net(1, false);
        Check.due("without it something does", drawn.nets(11, 2), 0);
    }

    private static void calm() {
        SparrowChange x = new SparrowChange();
        Check.due("outside", x.calm(-1, 0), Check.OUTSIDE);
        Check.due("outside", x.calm(61, 0), Check.OUTSIDE);
        Check.due("outside", x.calm(0, -1), Check.OUTSIDE);
        Check.due("outside", x.calm(0, 101), Check.OUTSIDE);
        Check.due("no hours", x.calm(0, 0), 1000000000);
        Check.due("sure", x.calm(60, 100), 1000000000);
        Check.due("never", x.calm(1, 0), 0);
        Check.due("three", x.calm(3, 90), 729000000);
        Check.due("cut each time", x.calm(6, 77), 208422379);
        Check.due("one of a hundred", x.calm(4, 1), 10);
        Check.due("one of a hundred", x.calm(5, 1), 0);
    }

    private static void nothingChanges() {
        SparrowChange x = Check.of(ROUND);
        x.strew(4, 50);
        x.net(1, true);
        int[] before = new int[18];
        for (int what = 0; what < before.length; what++) {
            before[what] = x.told(what);
        }
        x.hat(0, 100);
        x.most(4, 100, 0);
        x.kept(3);
        x.settled(1);
        x.toFloat(0);
        x.nets(94, 24);
        x.calm(60, 99);
        for (int what = 0; what < before.length; what++) {
            Check.due("told " + what, x.told(what), before[what]);
        }
        Check.due("crumbs", x.person(4, 3), 50);
        Check.due("debt", x.debt(0, 2), 18);
        Check.due("hat", x.person(0, 1), 20);
    }
}
