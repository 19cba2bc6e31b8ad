/** The edges of promises 3 and 5 to 8: what a text makes new, what is told of the parish, of persons, debts and the trace. */
public final class AskedEdgesTest {
    private static final int[] FAR = {Integer.MIN_VALUE, -1000000001, -64, -32, -2, -1, 1 << 16, 1 << 30, Integer.MAX_VALUE};
    private static final String TWO = "t50 24;p0 20 5;p2 30 9;";

    public static void main(String[] args) {
        newObject();
        allIsNew();
        nothingOfOlderTexts();
        allStaysByAFault();
        whatOutside();
        toldWithoutPersons();
        sets();
        richest();
        rings();
        owedInAll();
        pence();
        owesAndIsOwed();
        lossOfFew();
        lossOfMany();
        debtsPaid();
        ringedAtFirst();
        latestTwentyPlaces();
        traceOutside();
        traceOfNothingMoved();
        Check.finish();
    }

    /** Something of all that there can be. */
    private static SparrowChange busy() {
        SparrowChange x = Check.of("t50 6;p0 20 5;p1 30 9;d0 1 18;d1 0 20;");
        x.seed(77);
        x.keep(0);
        x.keep(1);
        x.count(0, 5);
        x.pay(0, 1, 9);
        x.net(0, true);
        x.hour(7);
        x.strew(1, 40);
        x.watch(3);
        x.feel(1, 9, true);
        x.write(1, 4);
        return x;
    }

    private static void noParish(SparrowChange x) {
        for (int what = 0; what <= 17; what++) {
            Check.due("told " + what, x.told(what), what == 8 || what == 10 ? Check.NONE : 0);
        }
        Check.due("person 0", x.person(0, 0), Check.UNKNOWN);
        Check.due("debt 0", x.debt(0, 0), Check.UNKNOWN);
        Check.due("trace", x.trace(0), Check.NONE);
    }

    private static void newObject() {
        Check.says("promise 1: no parish");
        SparrowChange x = new SparrowChange();
        noParish(x);
        Check.due("fault", x.fault(), Check.NONE);
        Check.due("reaches", x.reach(0), 51);
        Check.due("judge", x.judge(), Check.NONE);
        Check.due("all torn", x.tear(), 0);
        Check.due("goBack", x.goBack(0), Check.NOT);
        Check.due("seed", x.seed(0), 0);
    }

    private static void nothingOfOlderTexts() {
        Check.says("promise 3: nothing of older texts is left, with faults or without");
        String full = "t9 3;" + "p0 9 0;".repeat(7) + "d6 0 9;".repeat(9);
        SparrowChange x = Check.of(full);
        Check.feed(x, full + "p");
        Check.due("a fault behind all that there can be", x.parish(), -13);
        Check.feed(x, "t8 4;p0 1 1;p0 1 1;d0 1 1;");
        Check.due("a small parish", x.parish(), 2);
        Check.due("its debts", x.told(2), 1);
        Check.due("D", x.told(0), 4);
        Check.due("the first parish is gone, too", x.parish(), 0);
        noParish(x);
        Check.feed(x, "t8 4;");
        Check.due("no persons", x.parish(), 0);
        Check.due("the tree", x.told(5), 8);
        Check.due("hats", x.told(6), 0);
        Check.due("owed", x.told(12), 0);
        Check.due("none again", x.parish(), 0);
        noParish(x);
    }

    private static void allIsNew() {
        Check.says("promise 3: hour 0, hats, the tree, debts as told, no nets, crumbs; nothing watched, felt, no book; "
            + "images, what could be undone are gone; the seed stays");
        String text = "t50 6;p0 20 5;p1 30 9;d0 1 18;d1 0 20;";
        SparrowChange x = busy();
        Check.feed(x, text);
        Check.due("parish", x.parish(), 2);
        SparrowChange fresh = Check.of(text);
        for (int what = 0; what <= 17; what++) {
            Check.due("told " + what, x.told(what), fresh.told(what));
        }
        for (int p = 0; p < 2; p++) {
            for (int what = 0; what <= 9; what++) {
                Check.due("person " + p + " " + what, x.person(p, what), fresh.person(p, what));
            }
            for (int what = 0; what <= 2; what++) {
                Check.due("debt " + p + " " + what, x.debt(p, what), fresh.debt(p, what));
            }
        }
        Check.due("hours", x.told(4), 0);
        Check.due("crumbs", x.person(1, 3), 0);
        Check.due("trace", x.trace(1), Check.NONE);
        Check.due("reaches", x.reach(0), 51);
        Check.due("book", x.judge(), Check.NONE);
        Check.due("undo", x.undo(), Check.NOT);
        Check.due("image 0", x.goBack(0), Check.NOT);
        Check.due("image 1", x.goBack(1), Check.NOT);
        Check.due("seed", x.seed(0), 77);
        Check.says("promise 3: an empty text makes all new, too");
        SparrowChange y = busy();
        Check.due("parish", y.parish(), 0);
        Check.due("image 0", y.goBack(0), Check.NOT);
        Check.due("undo", y.undo(), Check.NOT);
        Check.due("reaches", y.reach(0), 51);
        Check.due("all torn", y.tear(), 0);
        Check.due("seed", y.seed(0), 77);
        Check.says("promise 3: fewer persons and debts than ahead");
        SparrowChange z = busy();
        Check.feed(z, "t3 2;p2 4 1;");
        Check.due("parish", z.parish(), 1);
        Check.due("person 1", z.person(1, 0), Check.UNKNOWN);
        Check.due("debt 0", z.debt(0, 0), Check.UNKNOWN);
        Check.due("hats", z.told(6), 4);
        Check.due("nets", z.told(7), 0);
        Check.due("owed", z.told(12), 0);
        Check.due("who", z.told(13), 1);
        z.hour(2);
        Check.due("nobody's crumbs are left", z.person(0, 1), 4);
        Check.due("tree", z.told(5), 3);
    }

    private static void allStaysByAFault() {
        Check.says("promise 3: -10 less the number of its fault (all else is as it was)");
        String[] faulty = {"x", "t1 0;", "t1 1;t", "t1 1;p0 0 0;d0 0 1;", "t7 3;p2 1 1;p2 1 1;p2 1 1;d0 1 5;p"};
        int[] answers = {-11, -12, -13, -14, -11};
        for (int i = 0; i < faulty.length; i++) {
            SparrowChange x = busy();
            SparrowChange same = busy();
            Check.feed(x, faulty[i]);
            Check.due("parish of " + faulty[i], x.parish(), answers[i]);
            for (int what = 0; what <= 17; what++) {
                Check.due("told " + what, x.told(what), same.told(what));
            }
            for (int what = 0; what <= 9; what++) {
                Check.due("person 0 " + what, x.person(0, what), same.person(0, what));
                Check.due("person 1 " + what, x.person(1, what), same.person(1, what));
            }
            Check.due("a third person", x.person(2, 0), Check.UNKNOWN);
            Check.due("debt 1", x.debt(1, 2), same.debt(1, 2));
            Check.due("judge", x.judge(), same.judge());
            Check.due("reach", x.reach(1), same.reach(1));
            Check.due("hat", x.hat(1, 3), same.hat(1, 3));
            Check.due("undo", x.undo(), same.undo());
            Check.due("crumbs", x.person(1, 3), 0);
            Check.due("undo", x.undo(), same.undo());
            Check.due("hours", x.told(4), 0);
            Check.due("image 1", x.goBack(1), 1);
            Check.due("seed", x.seed(1), 77);
        }
    }

    private static void whatOutside() {
        SparrowChange x = busy();
        for (int far : FAR) {
            Check.says("promise 5: OUTSIDE");
            Check.due("told " + far, x.told(far), Check.OUTSIDE);
            Check.says("promise 6: UNKNOWN, OUTSIDE");
            Check.due("person " + far, x.person(far, 1), Check.UNKNOWN);
            Check.due("person " + far + " of far", x.person(far, far), Check.UNKNOWN);
            Check.due("what " + far, x.person(1, far), Check.OUTSIDE);
            Check.says("promise 7: UNKNOWN, OUTSIDE");
            Check.due("debt " + far, x.debt(far, 1), Check.UNKNOWN);
            Check.due("debt " + far + " of far", x.debt(far, far), Check.UNKNOWN);
            Check.due("what " + far, x.debt(1, far), Check.OUTSIDE);
        }
        Check.says("promise 5: OUTSIDE");
        Check.due("told 18", x.told(18), Check.OUTSIDE);
        Check.due("told 17", x.told(17), 5);
        Check.says("promise 6: UNKNOWN, OUTSIDE");
        Check.due("person 2", x.person(2, 0), Check.UNKNOWN);
        Check.due("what 10", x.person(1, 10), Check.OUTSIDE);
        Check.says("promise 7: UNKNOWN, OUTSIDE");
        Check.due("debt 2", x.debt(2, 0), Check.UNKNOWN);
        Check.due("what 3", x.debt(1, 3), Check.OUTSIDE);
    }

    private static void toldWithoutPersons() {
        Check.says("promise 5: of a parish without persons");
        SparrowChange x = Check.of("t7 3;");
        int[] due = {3, 0, 0, 0, 0, 7, 0, 0, -2, 1, Check.NONE, 0, 0, 0, 0, 0, 0, 0};
        for (int what = 0; what < due.length; what++) {
            Check.due("told " + what, x.told(what), due[what]);
        }
        Check.due("hour", x.hour(60), 7);
        Check.due("drift", x.drift(60), 7);
        Check.due("hawk", x.hawk(0, 50), 0);
        Check.due("hours", x.told(4), 120);
        Check.due("trace", x.told(9), 1);
        Check.due("can be undone", x.told(17), 3);
        Check.due("settled", x.settled(0), 0);
        Check.due("a row", x.settled(1), 0);
    }

    private static void sets() {
        Check.says("terms: a set is a whole number, bit k for k");
        SparrowChange x = Check.of("t7 3;" + "p0 1 0;".repeat(7));
        int set = 0;
        for (int p = 6; p >= 0; p--) {
            x.net(p, true);
            set += 1 << p;
            Check.due("nets", x.told(7), set);
        }
        Check.due("all seven", x.told(7), 127);
        Check.due("who, nothing watched", x.told(13), 127);
        x.net(3, false);
        Check.due("but the fourth", x.told(7), 127 - 8);
        Check.says("promise 6: 4 1 a net, 0 none");
        for (int p = 0; p < 7; p++) {
            Check.due("net of " + p, x.person(p, 4), p == 3 ? 0 : 1);
        }
    }

    private static void richest() {
        Check.says("section 3: rich: the person with most birds; of like ones the least; NONE");
        Check.due("no parish", new SparrowChange().told(10), Check.NONE);
        Check.due("no persons", Check.of("t5 5;").told(10), Check.NONE);
        Check.due("one alone", Check.of("t5 5;p0 1 0;").told(10), 0);
        Check.due("the last", Check.of("t5 5;" + "p0 98 0;".repeat(6) + "p0 99 0;").told(10), 6);
        Check.due("all alike", Check.of("t5 5;" + "p0 99 0;".repeat(7)).told(10), 0);
        Check.due("two alike", Check.of("t5 5;p0 0 0;p0 1 0;p0 1 0;").told(10), 1);
        Check.due("the tree is no person", Check.of("t999 5;p0 0 0;p0 1 0;").told(10), 1);
        Check.due("most is nought, and all are alike", Check.of("t5 5;p0 0 0;p0 0 0;").told(10), 0);
    }

    private static void rings() {
        Check.says("section 3: rings: persons from whom one comes back to them by debts");
        String seven = "t5 5;" + "p0 99 0;".repeat(7);
        Check.due("no parish", new SparrowChange().told(11), 0);
        Check.due("no debts", Check.of(seven).told(11), 0);
        SparrowChange x = Check.of(seven + "d0 6 2;d6 0 3;");
        Check.due("there and back", x.told(11), 65);
        x.pay(0, 6, 1);
        Check.due("owed in part", x.told(11), 65);
        x.pay(0, 6, 1);
        Check.due("one paid", x.told(11), 0);
        x.undo();
        Check.due("undone", x.told(11), 65);
        SparrowChange y = Check.of(seven + "d0 6 2;d6 0 3;d0 6 1;");
        y.pay(0, 6, 2);
        Check.due("another debt of the same two", y.told(11), 65);
        SparrowChange nine = Check.of(seven + "d6 0 1;" + "d0 1 1;".repeat(8));
        Check.due("nine debts, no ring", nine.told(11), 0);
        SparrowChange last = Check.of(seven + "d1 2 1;".repeat(8) + "d2 1 1;");
        Check.due("the ninth makes it", last.told(11), 6);
    }

    private static void owedInAll() {
        Check.says("promise 5: 12 all that is owed");
        SparrowChange x = Check.of("t5 5;p0 99 0;p0 99 0;" + "d0 1 99;".repeat(5) + "d1 0 99;".repeat(4));
        Check.due("nine of 99", x.told(12), 891);
        x.pay(0, 1, 99);
        Check.due("one paid", x.told(12), 792);
        x.pay(1, 0, 198);
        Check.due("two more", x.told(12), 594);
    }

    private static void pence() {
        Check.says("section 3: pence: birds / 9, and what is left over");
        int[] birds = {0, 1, 8, 9, 10, 17, 18, 98, 99};
        int[] pence = {0, 0, 0, 1, 1, 1, 2, 10, 11};
        int[] rest = {0, 1, 8, 0, 1, 8, 0, 8, 0};
        for (int i = 0; i < birds.length; i++) {
            SparrowChange x = Check.of("t0 9;p2 " + birds[i] + " 0;");
            Check.due("pence of " + birds[i], x.person(0, 5), pence[i]);
            Check.due("rest of " + birds[i], x.person(0, 6), rest[i]);
        }
    }

    private static void owesAndIsOwed() {
        Check.says("section 3: owes, is owed: of a person all together");
        SparrowChange x = Check.of("t0 9;p0 9 0;p0 9 0;p0 9 0;d0 1 1;d0 1 99;d0 2 5;d1 0 7;d2 1 8;");
        int[] owes = {105, 7, 8};
        int[] owed = {7, 108, 5};
        for (int p = 0; p < 3; p++) {
            Check.due("owes " + p, x.person(p, 7), owes[p]);
            Check.due("is owed " + p, x.person(p, 8), owed[p]);
        }
        x.pay(0, 1, 9);
        Check.due("less", x.person(0, 7), 96);
        Check.due("less", x.person(1, 8), 99);
        SparrowChange nine = Check.of("t0 9;" + "p0 9 0;".repeat(7) + "d6 5 99;".repeat(9));
        Check.due("nine debts", nine.person(6, 7), 891);
        Check.due("nine debts", nine.person(5, 8), 891);
        Check.due("no other one owes", nine.person(5, 7), 0);
    }

    private static void lossOfFew() {
        Check.says("section 2: loss (0, if n is 0); half (cut); n at most");
        int[] birds = {0, 1, 2, 3, 4, 9, 10, 11, 19, 20, 29, 30, 89, 90, 99};
        int[][] due = {
            {0, 1, 1, 1, 1, 1, 2, 2, 2, 3, 3, 4, 9, 10, 10},
            {0, 0, 0, 0, 0, 0, 1, 1, 1, 1, 1, 2, 4, 5, 5},
            {0, 0, 0, 0, 0, 0, 0, 0, 0, 0, 0, 0, 0, 0, 0},
            {0, 1, 2, 2, 2, 2, 4, 4, 4, 6, 6, 8, 18, 20, 20},
            {0, 1, 1, 1, 1, 1, 2, 2, 2, 3, 3, 4, 9, 10, 10},
        };
        for (int kind = 0; kind <= 4; kind++) {
            for (int i = 0; i < birds.length; i++) {
                String who = "kind " + kind + " of " + birds[i];
                SparrowChange x = Check.of("t0 9;p" + kind + " " + birds[i] + " 0;");
                Check.due(who, x.person(0, 9), due[kind][i]);
                Check.due(who + " in an hour", x.hour(1), due[kind][i]);
                Check.due(who + " has then", x.person(0, 1), birds[i] - due[kind][i]);
                x.undo();
                x.net(0, true);
                Check.due(who + " with a net", x.person(0, 9), 0);
                Check.due(who + " with a net, in an hour", x.hour(1), 0);
            }
        }
        Check.says("section 2: kind 4: 0 with any crumbs");
        SparrowChange tenor = Check.of("t0 9;p4 20 0;");
        tenor.strew(0, 1);
        Check.due("one crumb", tenor.person(0, 9), 0);
        tenor.hour(1);
        Check.due("none left", tenor.person(0, 9), 3);
    }

    private static void lossOfMany() {
        Check.says("section 2: loss of more birds than a text can tell");
        int[] due = {110, 55, 0, 220, 110};
        for (int kind = 0; kind <= 4; kind++) {
            SparrowChange x = Check.of("t999 9;p" + kind + " 99 0;");
            Check.due("counted out", x.count(0, 999), 1098);
            Check.due("kind " + kind, x.person(0, 9), due[kind]);
            Check.due("pence", x.person(0, 5), 122);
            Check.due("rest", x.person(0, 6), 0);
        }
    }

    private static void debtsPaid() {
        Check.says("promise 7: what is owed yet");
        SparrowChange x = Check.of("t0 9;p0 99 0;p0 0 0;d0 1 99;");
        Check.due("all", x.debt(0, 2), 99);
        x.pay(0, 1, 98);
        Check.due("one", x.debt(0, 2), 1);
        x.pay(0, 1, 1);
        Check.due("none", x.debt(0, 2), 0);
        Check.due("it is there yet: A", x.debt(0, 0), 0);
        Check.due("it is there yet: B", x.debt(0, 1), 1);
        Check.due("it is there yet", x.told(2), 1);
    }

    private static void ringedAtFirst() {
        Check.says("section 2: the ringed one is with the first person that had birds as told, else in the tree");
        Check.due("the last of seven", Check.of("t5 5;" + "p0 0 0;".repeat(6) + "p0 1 0;").told(8), 6);
        Check.due("the first of seven", Check.of("t5 5;" + "p0 1 0;".repeat(7)).told(8), 0);
        Check.due("none has birds", Check.of("t5 5;" + "p0 0 0;".repeat(7)).told(8), -2);
        Check.due("there are no birds", Check.of("t0 5;p0 0 0;").told(8), -2);
        Check.due("no parish", new SparrowChange().told(8), Check.NONE);
    }

    private static void latestTwentyPlaces() {
        Check.says("section 2: trace: the latest 20 places, the one where it is now, too");
        SparrowChange x = Check.of(TWO);
        for (int moves = 0; moves <= 45; moves++) {
            Check.due("places behind " + moves, x.told(9), Math.min(20, moves + 1));
            Check.due("where it is", x.trace(0), moves % 2);
            Check.due("where it is", x.told(8), moves % 2);
            int oldest = Math.min(19, moves);
            Check.due("the oldest behind " + moves, x.trace(oldest), (moves - oldest) % 2);
            Check.due("none older behind " + moves, x.trace(oldest + 1), Check.NONE);
            x.pay(moves % 2, 1 - moves % 2, 1);
        }
        Check.says("section 2: trace, of places that differ");
        SparrowChange three = Check.of("t9 24;" + "p2 5 0;".repeat(7));
        int[] way = new int[26];
        for (int i = 1; i < way.length; i++) {
            way[i] = (way[i - 1] + 1 + i % 5) % 7;
            three.pay(way[i - 1], way[i], 1);
        }
        for (int i = 0; i < 20; i++) {
            Check.due("place " + i, three.trace(i), way[way.length - 1 - i]);
        }
        Check.says("section 3: undone: all of section 2 is as ahead of it, the oldest place of trace, too");
        three.undo();
        for (int i = 0; i < 20; i++) {
            Check.due("place " + i + " then", three.trace(i), way[way.length - 2 - i]);
        }
    }

    private static void traceOutside() {
        Check.says("promise 8: the place; NONE");
        SparrowChange x = Check.of(TWO);
        Check.due("the one", x.trace(0), 0);
        Check.due("none ahead", x.trace(1), Check.NONE);
        for (int far : FAR) {
            Check.due("trace " + far, x.trace(far), Check.NONE);
        }
        Check.due("no parish", new SparrowChange().trace(0), Check.NONE);
    }

    private static void traceOfNothingMoved() {
        Check.says("section 2: where 1 bird or more goes from where it is, it goes along");
        SparrowChange x = Check.of("t5 24;p2 1 0;p0 1 1;p1 9 50;");
        x.hour(5);
        x.net(0, true);
        x.hawk(0, 0);
        x.pay(1, 0, 0);
        x.count(1, 6);
        Check.due("nothing went from the first", x.told(9), 1);
        x.net(0, false);
        x.hawk(0, 0);
        Check.due("its one bird flew", x.told(8), -2);
        x.hawk(0, 0);
        Check.due("no bird flew", x.told(9), 2);
        x.count(2, 1);
        Check.due("the first to go", x.told(8), 2);
        Check.due("three places", x.told(9), 3);
    }
}
