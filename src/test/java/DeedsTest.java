/** Promises 9 to 16: what is done and undone. */
public final class DeedsTest {
    public static void main(String[] args) {
        counting();
        paying();
        strewing();
        netting();
        hawks();
        hours();
        drawers();
        dusk();
        lateHours();
        drifting();
        undoing();
        refusedIsNotUndone();
        Check.finish();
    }

    private static void counting() {
        SparrowChange x = Check.of("t20 6;p0 3 5;p1 0 9;");
        Check.due("unknown first", x.count(2, 0), Check.UNKNOWN);
        Check.due("unknown -1", x.count(-1, 1), Check.UNKNOWN);
        Check.due("outside 0", x.count(0, 0), Check.OUTSIDE);
        Check.due("outside 1000", x.count(0, 1000), Check.OUTSIDE);
        Check.due("not so many", x.count(0, 21), Check.NOT);
        Check.due("not so many", x.count(0, 999), Check.NOT);
        Check.due("counted out", x.count(0, 8), 11);
        Check.due("all the rest", x.count(1, 12), 12);
        Check.due("tree", x.told(5), 0);
        Check.due("hats", x.told(6), 23);
        Check.due("none left", x.count(1, 1), Check.NOT);
        SparrowChange whole = Check.of("t999 6;p0 0 5;");
        Check.due("999", whole.count(0, 999), 999);
        Check.due("ringed goes along", whole.told(8), 0);
        Check.due("trace", whole.trace(1), -2);
    }

    private static void paying() {
        SparrowChange x = Check.of("t20 6;p0 30 5;p1 9 9;p2 0 1;d0 1 5;d1 0 7;d0 2 4;d0 1 8;");
        Check.due("to itself", x.pay(1, 1, 1), Check.UNKNOWN);
        Check.due("to itself, ahead of outside", x.pay(1, 1, 0), Check.UNKNOWN);
        Check.due("unknown p", x.pay(3, 1, 1), Check.UNKNOWN);
        Check.due("unknown q", x.pay(1, 3, 1), Check.UNKNOWN);
        Check.due("unknown q", x.pay(1, -1, 1), Check.UNKNOWN);
        Check.due("outside", x.pay(0, 1, 0), Check.OUTSIDE);
        Check.due("outside", x.pay(0, 1, 1000), Check.OUTSIDE);
        Check.due("not so many", x.pay(0, 1, 31), Check.NOT);
        Check.due("debts as they come", x.pay(0, 1, 7), 6);
        Check.due("the first", x.debt(0, 2), 0);
        Check.due("the fourth", x.debt(3, 2), 6);
        Check.due("another's stays", x.debt(2, 2), 4);
        Check.due("back stays", x.debt(1, 2), 7);
        Check.due("p's hat", x.person(0, 1), 23);
        Check.due("q's hat", x.person(1, 1), 16);
        Check.due("ringed went along", x.told(8), 1);
        Check.due("more than owed", x.pay(0, 1, 23), 0);
        Check.due("p has none", x.pay(0, 2, 1), Check.NOT);
        Check.due("who owes nothing", x.pay(1, 2, 39), 0);
        Check.due("its hat", x.person(2, 1), 39);
        Check.due("ringed", x.told(8), 2);
        x.pay(2, 1, 1);
        x.net(2, true);
        Check.due("a net does not hinder", x.pay(2, 0, 38), 0);
        Check.due("ringed stays where it went", x.told(8), 1);
    }

    private static void strewing() {
        SparrowChange x = Check.of("t20 6;p0 30 5;p1 9 9;");
        Check.due("unknown", x.strew(2, 0), Check.UNKNOWN);
        Check.due("outside", x.strew(1, 0), Check.OUTSIDE);
        Check.due("outside", x.strew(1, 100), Check.OUTSIDE);
        Check.due("strewn", x.strew(1, 40), 40);
        Check.due("strewn", x.strew(1, 58), 98);
        Check.due("99 at most", x.strew(1, 2), 99);
        Check.due("99 at most", x.strew(1, 99), 99);
        Check.due("99 at once", x.strew(0, 99), 99);
    }

    private static void netting() {
        SparrowChange x = Check.of("t20 6;p0 30 5;p1 9 9;");
        Check.due("unknown", x.net(2, true), Check.UNKNOWN);
        Check.due("unknown", x.net(-1, false), Check.UNKNOWN);
        Check.due("none to give away", x.net(1, false), 0);
        Check.due("got", x.net(1, true), 0);
        Check.due("got again", x.net(1, true), 1);
        Check.due("set", x.told(7), 2);
        Check.due("given away", x.net(1, false), 1);
        Check.due("set", x.told(7), 0);
    }

    private static void hawks() {
        SparrowChange x = Check.of("t20 6;p0 30 5;p2 9 9;p1 7 20;p3 4 0;");
        Check.due("outside", x.hawk(-1, 0), Check.OUTSIDE);
        Check.due("outside", x.hawk(51, 0), Check.OUTSIDE);
        Check.due("outside", x.hawk(0, -1), Check.OUTSIDE);
        Check.due("outside", x.hawk(0, 51), Check.OUTSIDE);
        Check.due("nobody so near", x.hawk(50, 29), 0);
        Check.due("just felt, a miser's too", x.hawk(13, 4), 9);
        x.net(0, true);
        Check.due("a net keeps", x.hawk(10, 10), 11);
        Check.due("kept", x.person(0, 1), 30);
        Check.due("tree", x.told(5), 40);
        Check.due("ringed stays", x.told(8), 0);
        x.net(0, false);
        Check.due("no net now", x.hawk(0, 50), 30);
        Check.due("ringed", x.told(8), -2);
    }

    private static void hours() {
        SparrowChange x = Check.of("t0 24;p0 20 5;p1 30 9;p2 25 40;p3 7 12;p4 12 3;");
        Check.due("outside", x.hour(0), Check.OUTSIDE);
        Check.due("outside", x.hour(61), Check.OUTSIDE);
        Check.due("one", x.hour(1), 9);
        int[] one = {17, 28, 25, 5, 10};
        for (int p = 0; p < one.length; p++) {
            Check.due("hat " + p, x.person(p, 1), one[p]);
        }
        Check.due("two more", x.hour(2), 22);
        int[] three = {13, 26, 25, 1, 7};
        for (int p = 0; p < three.length; p++) {
            Check.due("hat " + p, x.person(p, 1), three[p]);
        }
        Check.due("hours", x.told(4), 3);
        Check.due("nobody there", Check.of("t8 3;").hour(60), 8);
    }

    private static void drawers() {
        SparrowChange x = Check.of("t0 24;p4 20 5;p0 30 9;p0 25 40;p3 8 12;");
        x.strew(2, 7);
        x.strew(1, 7);
        x.strew(0, 2);
        // 1 draws (the least of like ones): of the tenor with crumbs nothing, of 2 three, of 3 two
        Check.due("tree gets nothing", x.hour(1), 0);
        int[] birds = {20, 35, 22, 6};
        int[] crumbs = {1, 3, 3, 0};
        for (int p = 0; p < birds.length; p++) {
            Check.due("hat " + p, x.person(p, 1), birds[p]);
            Check.due("crumbs " + p, x.person(p, 3), crumbs[p]);
        }
        x.hour(1);
        Check.due("1 draws again", x.person(1, 1), 40);
        Check.due("ringed stays with the tenor", x.told(8), 0);
        x.hour(1);
        Check.due("the tenor has no crumbs now", x.person(0, 1), 17);
        Check.due("ringed was drawn", x.told(8), 1);
        Check.due("1 draws a third time", x.person(1, 1), 47);
        Check.due("no crumbs are left", x.person(1, 3), 0);
        Check.due("so the tree draws", x.hour(1), 11);
        Check.due("ringed", x.told(8), -2);
    }

    private static void dusk() {
        SparrowChange x = Check.of("t0 2;p0 20 5;p2 30 9;p1 5 5;");
        x.net(0, true);
        x.strew(2, 9);
        Check.due("not yet", x.hour(1), 0);
        Check.due("dusk", x.hour(1), 25);
        Check.due("nets do not hold", x.person(0, 1), 0);
        Check.due("but for misers", x.person(1, 1), 30);
        Check.due("crumbs are a quarter", x.person(2, 3), 2);
        Check.due("ringed", x.told(8), -2);
        Check.due("trace", x.told(9), 2);
        x.count(2, 5);
        x.hour(1);
        Check.due("the next is 2 hours off", x.person(2, 1), 5);
        x.hour(1);
        Check.due("dusk again", x.person(2, 1), 0);
        SparrowChange drawn = Check.of("t0 1;p0 20 5;p0 0 9;");
        drawn.strew(1, 1);
        Check.due("drawn and home", drawn.hour(1), 20);
        Check.due("its way", drawn.told(9), 3);
        Check.due("its way", drawn.trace(0), -2);
        Check.due("its way", drawn.trace(1), 1);
        Check.due("its way", drawn.trace(2), 0);
    }

    private static void lateHours() {
        SparrowChange x = Check.of("t5 7;p2 3 5;");
        for (int i = 0; i < 150; i++) {
            Check.due("hour", x.hour(60), 5);
        }
        Check.due("9000", x.told(4), 9000);
        Check.due("not above it yet", x.hour(1), 5);
        Check.due("hour full", x.hour(1), Check.FULL);
        Check.due("drift full", x.drift(1), Check.FULL);
        Check.due("outside first", x.hour(61), Check.OUTSIDE);
        Check.due("changed nothing", x.told(4), 9001);
        Check.due("undone", x.undo(), 15);
        Check.due("may go on", x.drift(60) >= 0 ? 1 : 0, 1);
        Check.due("9060", x.told(4), 9060);
        Check.due("tried yet", x.hat(0, 100) >= 0 ? 1 : 0, 1);
    }

    private static void drifting() {
        SparrowChange x = Check.of("t50 6;p0 20 5;p1 30 9;p2 25 40;p3 7 12;p4 12 3;");
        Check.due("outside", x.drift(0), Check.OUTSIDE);
        Check.due("outside", x.drift(61), Check.OUTSIDE);
        x.seed(5);
        Check.due("twenty", x.drift(20), 88);
        Check.due("seed", x.seed(5), 581311092);
        SparrowChange empty = Check.of("t50 6;");
        empty.seed(9);
        Check.due("nobody draws", empty.drift(60), 50);
        Check.due("hours", empty.told(4), 60);
        Check.due("seed untouched", empty.seed(0), 9);
        SparrowChange once = Check.of("t4 24;p2 0 5;");
        // 0 becomes 12345 (draw of 5: 0), then 1406932606 (person 0)
        Check.due("what the tree has, if less than 9", once.drift(1), 0);
        Check.due("counted out", once.person(0, 1), 4);
        Check.due("ringed", once.told(8), 0);
        Check.due("seed", once.seed(0), 1406932606);
        once.drift(1);
        Check.due("an empty tree gives none", once.person(0, 1), 4);
        Check.due("seed", once.seed(0), 1406932606);
        Check.due("undone as one", once.undo(), 1);
        Check.due("seed stays", once.seed(3), 0);
    }

    private static void undoing() {
        SparrowChange x = Check.of("t50 6;p0 20 5;p1 30 9;d0 1 15;");
        Check.due("none", x.undo(), Check.NOT);
        x.count(0, 5);
        x.pay(0, 1, 9);
        x.strew(0, 8);
        x.net(1, true);
        x.hawk(5, 0);
        x.hour(7);
        x.drift(3);
        Check.due("seven", x.told(17), 7);
        Check.due("drift", x.undo(), 6);
        Check.due("hours", x.told(4), 7);
        Check.due("hour", x.undo(), 5);
        Check.due("hours", x.told(4), 0);
        Check.due("crumbs are back", x.person(0, 3), 8);
        Check.due("hawk", x.undo(), 4);
        Check.due("hat", x.person(0, 1), 16);
        Check.due("net", x.undo(), 3);
        Check.due("nets", x.told(7), 0);
        Check.due("strew", x.undo(), 2);
        Check.due("crumbs", x.person(0, 3), 0);
        Check.due("pay", x.undo(), 1);
        Check.due("debt", x.debt(0, 2), 15);
        Check.due("ringed", x.told(8), 0);
        Check.due("trace", x.told(9), 1);
        Check.due("count", x.undo(), 0);
        Check.due("tree", x.told(5), 50);
        Check.due("none", x.undo(), Check.NOT);
        for (int i = 1; i <= 20; i++) {
            x.strew(0, 1);
            Check.due("can be undone", x.told(17), Math.min(i, 16));
        }
        for (int i = 15; i >= 0; i--) {
            Check.due("undo", x.undo(), i);
        }
        Check.due("the oldest are lost", x.undo(), Check.NOT);
        Check.due("crumbs", x.person(0, 3), 4);
    }

    private static void refusedIsNotUndone() {
        SparrowChange x = Check.of("t5 6;p0 2 5;p1 3 9;d0 1 15;");
        x.strew(0, 8);
        x.count(0, 6);
        x.pay(0, 1, 3);
        x.pay(0, 0, 1);
        x.strew(0, 100);
        x.net(2, true);
        x.hawk(51, 1);
        x.hour(0);
        x.drift(0);
        Check.due("one", x.told(17), 1);
        x.net(0, false);
        x.hawk(50, 0);
        Check.due("what changes nothing counts too", x.told(17), 3);
    }
}
