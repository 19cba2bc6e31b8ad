/** Promises 1 to 8: a new object, the text and its faults, what is told. */
public final class ParishTest {
    private static final String ROUND = "t50 6;p0 20 5;p1 30 9;p2 25 40;p3 7 12;p4 12 3;d0 3 18;d3 1 20;d1 4 9;d4 0 30;";

    public static void main(String[] args) {
        newObject();
        feeding();
        textsThatStand();
        faults();
        faultsLeaveAllElse();
        newParishForgets();
        toldOfParish();
        persons();
        losses();
        debts();
        ringedAtFirst();
        traces();
        rings();
        Check.finish();
    }

    private static void newObject() {
        SparrowChange x = new SparrowChange();
        for (int what = 0; what <= 17; what++) {
            Check.due("new told " + what, x.told(what), what == 8 || what == 10 ? Check.NONE : 0);
        }
        Check.due("new told -1", x.told(-1), Check.OUTSIDE);
        Check.due("new told 18", x.told(18), Check.OUTSIDE);
        Check.due("new fault", x.fault(), Check.NONE);
        Check.due("new trace", x.trace(0), Check.NONE);
        Check.due("new person", x.person(0, 99), Check.UNKNOWN);
        Check.due("new debt", x.debt(0, 99), Check.UNKNOWN);
        Check.due("new hat", x.hat(0, 1000), Check.UNKNOWN);
        Check.due("new kept", x.kept(0), Check.UNKNOWN);
        Check.due("new toFloat", x.toFloat(0), Check.UNKNOWN);
        Check.due("new nets", x.nets(0, 24), Check.NONE);
        Check.due("new hour 0", x.hour(0), Check.OUTSIDE);
        Check.due("new hour", x.hour(1), Check.NOT);
        Check.due("new drift 61", x.drift(61), Check.OUTSIDE);
        Check.due("new drift", x.drift(1), Check.NOT);
        Check.due("new hawk 51", x.hawk(51, 0), Check.OUTSIDE);
        Check.due("new hawk", x.hawk(50, 50), Check.NOT);
        Check.due("new undo", x.undo(), Check.NOT);
        Check.due("new goBack", x.goBack(0), Check.NOT);
        Check.due("new seed", x.seed(1), 0);
    }

    private static void feeding() {
        SparrowChange x = new SparrowChange();
        Check.due("feed -1", x.feed(-1), Check.OUTSIDE);
        Check.due("feed 256", x.feed(256), Check.OUTSIDE);
        Check.due("told 3", x.told(3), 0);
        for (int i = 1; i <= 240; i++) {
            Check.due("feed nr " + i, x.feed(i % 2 == 0 ? 0 : 255), i);
        }
        Check.due("feed 241st", x.feed(32), Check.FULL);
        Check.due("feed 241st outside", x.feed(256), Check.OUTSIDE);
        Check.due("told 3 full", x.told(3), 240);
        Check.due("parish of 255s", x.parish(), -11);
        Check.due("told 3 emptied", x.told(3), 0);
        Check.due("feed again", x.feed(32), 1);
    }

    private static void stands(String text, int persons) {
        SparrowChange x = new SparrowChange();
        Check.feed(x, text);
        Check.due("parish '" + text + "'", x.parish(), persons);
        Check.due("fault of '" + text + "'", x.fault(), Check.NONE);
        Check.due("text behind '" + text + "'", x.told(3), 0);
    }

    private static void faulty(String text, int number, int at) {
        SparrowChange x = new SparrowChange();
        Check.feed(x, text);
        Check.due("parish '" + text + "'", x.parish(), -10 - number);
        Check.due("fault of '" + text + "'", x.fault(), at);
        Check.due("text behind '" + text + "'", x.told(3), 0);
    }

    private static void textsThatStand() {
        stands("", 0);
        stands("     ", 0);
        stands("t0 1;", 0);
        stands("t999 24;", 0);
        stands("t000 001;", 0);
        stands("  t  5   3  ;  p 0 99 50 ;p4 0 0;   ", 2);
        stands("t1 1;p0 0 0;p0 0 0;d0 1 1;p0 0 0;d2 1 99;d2 1 99;", 3);
        stands(ROUND, 5);
        StringBuilder full = new StringBuilder("t1 1;");
        for (int i = 0; i < 7; i++) {
            full.append("p0 1 1;");
        }
        for (int i = 0; i < 9; i++) {
            full.append("d6 0 99;");
        }
        stands(full.toString(), 7);
    }

    private static void faults() {
        faulty("x", 1, 0);
        faulty(" p0 0 0;", 1, 1);
        faulty("d0 1 1;", 1, 0);
        faulty("5", 1, 0);
        faulty(";", 1, 0);
        faulty("T0 1;", 1, 0);
        faulty("t", 1, 1);
        faulty("t  ", 1, 3);
        faulty("t1", 1, 2);
        faulty("t1 ", 1, 3);
        faulty("t1 1", 1, 4);
        faulty("t1;", 1, 2);
        faulty("t12;", 1, 3);
        faulty("tt", 1, 1);
        faulty("t1 t", 1, 3);
        faulty("t1 1p", 1, 4);
        faulty("t1 1 1;", 1, 5);
        faulty("t1 1 1000;", 1, 5);
        faulty("t1 1;;", 1, 5);
        faulty("t1 1;1", 1, 5);
        faulty("t1 1;x", 1, 5);
        faulty("t1 1; \t", 1, 6);
        faulty("t-1 1;", 1, 1);
        faulty("t1 1;p", 1, 6);
        faulty("t1 1;p1 1 ;", 1, 10);
        faulty("t1000 1;", 2, 1);
        faulty("t0001 1;", 2, 1);
        faulty("t99999999999999999999 1;", 2, 1);
        faulty("t1000", 2, 1);
        faulty("t 1 25x", 2, 4);
        faulty("t1 0;", 2, 3);
        faulty("t1 25;", 2, 3);
        faulty("t1 1;p5 1 1;", 2, 6);
        faulty("t1 1;p0 100 1;", 2, 8);
        faulty("t1 1;p0 1  51;", 2, 11);
        faulty("t1 1;d0 1 1;", 2, 6);
        faulty("t1 1;p0 0 0;d1 0 1;", 2, 13);
        faulty("t1 1;p0 0 0;d0 1 1;", 2, 15);
        faulty("t1 1;p0 0 0;d0 0000 1;", 2, 15);
        faulty("t1 1;p0 0 0;p0 0 0;d0 1 0;", 2, 24);
        faulty("t1 1;p0 0 0;p0 0 0;d0 1 100;", 2, 24);
        faulty("t1 1;t", 3, 5);
        faulty("t1 1; t1 1;", 3, 6);
        faulty("t1 1;" + "p0 0 0;".repeat(7) + "p", 3, 54);
        faulty("t1 1;" + "p0 0 0;".repeat(7) + " pxx", 3, 55);
        faulty("t1 1;p0 0 0;p0 0 0;" + "d0 1 1;".repeat(9) + "d", 3, 82);
        faulty("t1 1;p0 0 0;d0 0 1;", 4, 15);
        faulty("t1 1;p0 0 0;d 0   00 x", 4, 18);
        faulty("t1 1;p0 0 0;d0 0", 4, 15);
    }

    private static void faultsLeaveAllElse() {
        SparrowChange x = Check.of(ROUND);
        x.seed(77);
        x.keep(1);
        x.strew(2, 5);
        x.watch(3);
        x.feel(1, 2, true);
        x.write(0, 1);
        Check.feed(x, "t1 1;x");
        Check.due("faulty", x.parish(), -11);
        Check.due("fault", x.fault(), 5);
        Check.due("persons stay", x.told(1), 5);
        Check.due("crumbs stay", x.person(2, 3), 5);
        Check.due("undo stays", x.told(17), 1);
        Check.due("watched stays", x.told(14), 1);
        Check.due("felt stays", x.told(15), 1);
        Check.due("book stays", x.told(16), 1);
        Check.due("image stays", x.goBack(1), 1);
        Check.due("fault stays", x.fault(), 5);
        Check.due("seed stays", x.seed(0), 77);
    }

    private static void newParishForgets() {
        SparrowChange x = Check.of(ROUND);
        x.seed(77);
        x.keep(0);
        x.keep(1);
        x.strew(2, 5);
        x.net(1, true);
        x.pay(0, 3, 18);
        x.hour(3);
        x.watch(3);
        x.feel(1, 2, true);
        x.write(0, 1);
        Check.feed(x, "t9 2;p1 4 5;p0 7 8;p2 0 1;d2 0 8;");
        Check.due("second parish", x.parish(), 3);
        int[] told = {2, 3, 1, 0, 0, 9, 11, 0, 0, 1, 1, 0, 8, 7, 0, 0, 0, 0};
        for (int what = 0; what < told.length; what++) {
            Check.due("second told " + what, x.told(what), told[what]);
        }
        Check.due("no crumbs", x.person(2, 3), 0);
        Check.due("unknown now", x.person(3, 1), Check.UNKNOWN);
        Check.due("debt unknown now", x.debt(1, 0), Check.UNKNOWN);
        Check.due("undo gone", x.undo(), Check.NOT);
        Check.due("image 0 gone", x.goBack(0), Check.NOT);
        Check.due("image 1 gone", x.goBack(1), Check.NOT);
        Check.due("seed stays", x.seed(77), 77);
        x.keep(0);
        Check.due("no parish", x.parish(), 0);
        for (int what = 0; what <= 17; what++) {
            Check.due("gone told " + what, x.told(what), what == 8 || what == 10 ? Check.NONE : 0);
        }
        Check.due("gone trace", x.trace(0), Check.NONE);
        Check.due("gone hour", x.hour(1), Check.NOT);
        Check.due("gone image", x.goBack(0), Check.NOT);
        Check.due("gone settled", x.settled(1), 0);
    }

    private static void toldOfParish() {
        SparrowChange x = Check.of(ROUND);
        Check.feed(x, "t1");
        x.strew(1, 1);
        x.net(0, true);
        x.net(3, true);
        x.hour(1);
        x.watch(4);
        x.watch(4);
        x.feel(0, 0, true);
        x.write(0, 0);
        x.write(0, 0);
        x.write(0, 0);
        // 0 and 3 have nets, 2 is a miser: only the tenor lost 2, to the shop that strewed; now both would lose 2
        int[] told = {6, 5, 4, 2, 1, 50, 94, 9, 0, 1, 1, 27, 77, 13, 2, 1, 3, 4};
        for (int what = 0; what < told.length; what++) {
            Check.due("told " + what, x.told(what), told[what]);
        }
        SparrowChange equal = Check.of("t5 9;p0 4 0;p0 6 0;p0 6 0;");
        Check.due("rich, the least of like ones", equal.told(10), 1);
        equal.hawk(0, 0);
        Check.due("most is nought", equal.told(10), 0);
        Check.due("no persons", Check.of("t5 9;").told(10), Check.NONE);
    }

    private static void persons() {
        SparrowChange x = Check.of("t50 6;p0 20 5;p1 30 9;p4 8 50;d0 1 18;d1 0 20;d0 2 9;d0 1 3;");
        int[] zero = {0, 20, 5, 0, 0, 2, 2, 30, 20, 3};
        for (int what = 0; what < zero.length; what++) {
            Check.due("person 0 " + what, x.person(0, what), zero[what]);
        }
        x.strew(2, 33);
        x.net(2, true);
        int[] two = {4, 8, 50, 33, 1, 0, 8, 0, 9, 0};
        for (int what = 0; what < two.length; what++) {
            Check.due("person 2 " + what, x.person(2, what), two[what]);
        }
        Check.due("person 3", x.person(3, 0), Check.UNKNOWN);
        Check.due("person -1", x.person(-1, 0), Check.UNKNOWN);
        Check.due("person 3 10", x.person(3, 10), Check.UNKNOWN);
        Check.due("what 10", x.person(0, 10), Check.OUTSIDE);
        Check.due("what -1", x.person(0, -1), Check.OUTSIDE);
    }

    private static void losses() {
        int[] birds = {0, 1, 2, 9, 10, 19, 20, 99};
        int[][] due = {
            {0, 1, 1, 1, 2, 2, 3, 10},
            {0, 0, 0, 0, 1, 1, 1, 5},
            {0, 0, 0, 0, 0, 0, 0, 0},
            {0, 1, 2, 2, 4, 4, 6, 20},
            {0, 1, 1, 1, 2, 2, 3, 10},
        };
        for (int kind = 0; kind <= 4; kind++) {
            for (int i = 0; i < birds.length; i++) {
                SparrowChange x = Check.of("t0 9;p" + kind + " " + birds[i] + " 0;");
                String who = "kind " + kind + " with " + birds[i];
                Check.due(who + " loses", x.person(0, 9), due[kind][i]);
                x.strew(0, 1);
                Check.due(who + " and crumbs", x.person(0, 9), kind == 4 ? 0 : due[kind][i]);
                x.net(0, true);
                Check.due(who + " and a net", x.person(0, 9), 0);
            }
        }
    }

    private static void debts() {
        SparrowChange x = Check.of("t50 6;p0 20 5;p1 30 9;d0 1 18;d1 0 20;");
        Check.due("A", x.debt(1, 0), 1);
        Check.due("B", x.debt(1, 1), 0);
        Check.due("owed", x.debt(1, 2), 20);
        Check.due("debt 2", x.debt(2, 0), Check.UNKNOWN);
        Check.due("debt -1", x.debt(-1, 3), Check.UNKNOWN);
        Check.due("what 3", x.debt(0, 3), Check.OUTSIDE);
        Check.due("what -1", x.debt(0, -1), Check.OUTSIDE);
        x.pay(0, 1, 20);
        Check.due("no debt below 0", x.debt(0, 2), 0);
        Check.due("the other way stays", x.debt(1, 2), 20);
    }

    private static void ringedAtFirst() {
        Check.due("first with birds", Check.of("t5 5;p0 0 0;p2 1 1;p0 9 9;").told(8), 1);
        Check.due("nobody with birds", Check.of("t5 5;p0 0 0;").told(8), -2);
        Check.due("no birds at all", Check.of("t0 5;").told(8), -2);
        Check.due("its trace", Check.of("t0 5;").told(9), 1);
        Check.due("its place", Check.of("t0 5;").trace(0), -2);
    }

    private static void traces() {
        SparrowChange x = Check.of("t50 24;p0 20 5;p2 30 9;");
        for (int i = 0; i < 15; i++) {
            x.pay(i % 2, 1 - i % 2, 1);
        }
        Check.due("16 places", x.told(9), 16);
        Check.due("latest", x.trace(0), 1);
        Check.due("oldest", x.trace(15), 0);
        Check.due("none older", x.trace(16), Check.NONE);
        for (int i = 15; i < 30; i++) {
            x.pay(i % 2, 1 - i % 2, 1);
        }
        x.hawk(5, 0);
        Check.due("20 places at most", x.told(9), 20);
        Check.due("the tree", x.trace(0), -2);
        Check.due("ahead of it", x.trace(1), 0);
        Check.due("ahead of that", x.trace(2), 1);
        Check.due("the 20th", x.trace(19), 0);
        Check.due("no 21st", x.trace(20), Check.NONE);
        Check.due("none at -1", x.trace(-1), Check.NONE);
        Check.due("none far off", x.trace(Integer.MIN_VALUE), Check.NONE);
        Check.due("none far off", x.trace(Integer.MAX_VALUE), Check.NONE);
    }

    private static void rings() {
        String seven = "t50 6;" + "p0 20 5;".repeat(7);
        Check.due("no debts", Check.of(seven).told(11), 0);
        Check.due("a chain", Check.of(seven + "d0 1 1;d1 2 1;d2 3 1;").told(11), 0);
        Check.due("both ways", Check.of(seven + "d6 5 1;d5 6 1;").told(11), 96);
        Check.due("who only owes into a ring", Check.of(seven + "d3 4 1;d4 5 1;d5 4 1;d5 2 1;").told(11), 48);
        Check.due("two rings", Check.of(seven + "d0 1 1;d1 0 1;d4 3 1;d3 2 1;d2 4 1;d1 2 1;").told(11), 31);
        SparrowChange x = Check.of(seven + "d6 0 1;d5 6 1;d4 5 1;d3 4 1;d2 3 1;d1 2 1;d0 1 1;");
        Check.due("one ring of all", x.told(11), 127);
        x.pay(3, 4, 1);
        Check.due("paid, it is broken", x.told(11), 0);
    }
}
