/** The edges of promises 17 to 23: bounds of what is tried, what is alike, what cannot be. */
public final class TriedEdgesTest {
    private static final int[] FAR = {Integer.MIN_VALUE, -1000000001, -64, -32, -2, -1, 1 << 16, 1 << 30, Integer.MAX_VALUE};
    private static final String ROUND = "t50 6;p0 20 5;p1 30 9;p2 25 40;p3 7 12;p4 12 3;d0 3 18;d3 1 20;d1 4 9;d4 0 30;";

    public static void main(String[] args) {
        unknownAndOutside();
        withoutParish();
        hatIsWhatHoursDo();
        mostOfLikeOnes();
        keptToTheNextDusk();
        settledWhole();
        settledNone();
        settledLeastRow();
        settledNine();
        floatLeast();
        floatNone();
        floatNought();
        netsFewest();
        netsLikeOnes();
        netsNone();
        netsBesides();
        calm();
        Check.finish();
    }

    private static void unknownAndOutside() {
        SparrowChange x = Check.of(ROUND);
        for (int far : FAR) {
            Check.says("promise 17: UNKNOWN, OUTSIDE");
            Check.due("hat of " + far, x.hat(far, 0), Check.UNKNOWN);
            Check.due("hat behind " + far, x.hat(0, far), Check.OUTSIDE);
            Check.says("promise 18: UNKNOWN, OUTSIDE");
            Check.due("most of " + far, x.most(far, 0, 0), Check.UNKNOWN);
            Check.due("most behind " + far, x.most(0, far, 0), Check.OUTSIDE);
            Check.due("most, what " + far, x.most(0, 0, far), Check.OUTSIDE);
            Check.says("promise 19: UNKNOWN");
            Check.due("kept by " + far, x.kept(far), Check.UNKNOWN);
            Check.says("promise 20: OUTSIDE");
            Check.due("settled " + far, x.settled(far), Check.OUTSIDE);
            Check.says("promise 21: UNKNOWN");
            Check.due("toFloat " + far, x.toFloat(far), Check.UNKNOWN);
            Check.says("promise 22: OUTSIDE");
            Check.due("nets of " + far, x.nets(far, 1), Check.OUTSIDE);
            Check.due("nets behind " + far, x.nets(0, far), Check.OUTSIDE);
            Check.says("promise 23: OUTSIDE");
            Check.due("calm of " + far, x.calm(far, 0), Check.OUTSIDE);
            Check.due("calm by " + far, x.calm(0, far), Check.OUTSIDE);
        }
        Check.says("promises 17 to 23: just outside");
        Check.due("hat 5", x.hat(5, 0), Check.UNKNOWN);
        Check.due("hat 101", x.hat(0, 101), Check.OUTSIDE);
        Check.due("most 5", x.most(5, 0, 0), Check.UNKNOWN);
        Check.due("most 101", x.most(0, 101, 1), Check.OUTSIDE);
        Check.due("most what 2", x.most(0, 100, 2), Check.OUTSIDE);
        Check.due("kept 5", x.kept(5), Check.UNKNOWN);
        Check.due("settled 2", x.settled(2), Check.OUTSIDE);
        Check.due("toFloat 5", x.toFloat(5), Check.UNKNOWN);
        Check.due("nets 10000", x.nets(10000, 1), Check.OUTSIDE);
        Check.due("nets 0 hours", x.nets(0, 0), Check.OUTSIDE);
        Check.due("nets 25 hours", x.nets(0, 25), Check.OUTSIDE);
        Check.due("calm 61", x.calm(61, 100), Check.OUTSIDE);
        Check.due("calm by 101", x.calm(60, 101), Check.OUTSIDE);
    }

    private static void withoutParish() {
        SparrowChange x = new SparrowChange();
        Check.says("promise 17 to 21: without a parish nobody is known, nothing is owed");
        Check.due("hat", x.hat(0, 0), Check.UNKNOWN);
        Check.due("most", x.most(0, 0, 0), Check.UNKNOWN);
        Check.due("kept", x.kept(0), Check.UNKNOWN);
        Check.due("settled", x.settled(0), 0);
        Check.due("row", x.settled(1), 0);
        Check.due("settled 2", x.settled(2), Check.OUTSIDE);
        Check.due("toFloat", x.toFloat(0), Check.UNKNOWN);
        Check.says("promise 22: NONE (without a parish, too)");
        Check.due("nets of 0", x.nets(0, 1), Check.NONE);
        Check.due("nets of 9999", x.nets(9999, 24), Check.NONE);
        Check.due("outside is first", x.nets(0, 25), Check.OUTSIDE);
        Check.says("promise 22: a parish without persons");
        SparrowChange nobody = Check.of("t50 6;");
        Check.due("nets of 0", nobody.nets(0, 1), 0);
        Check.due("nets of 1", nobody.nets(1, 1), Check.NONE);
    }

    private static void hatIsWhatHoursDo() {
        Check.says("section 3: hat of a person behind n hours (0 .. 100)");
        for (int p = 0; p < 5; p++) {
            SparrowChange tried = Check.of(ROUND);
            SparrowChange done = Check.of(ROUND);
            tried.strew(2, 60);
            done.strew(2, 60);
            for (int n = 0; n <= 100; n++) {
                Check.due("hat " + p + " behind " + n, tried.hat(p, n), done.person(p, 1));
                done.hour(1);
            }
            Check.due("nothing changes by it", tried.told(4), 0);
            Check.due("nothing can be undone", tried.told(17), 1);
        }
    }

    private static void mostOfLikeOnes() {
        Check.says("section 3: behind how many of 0 to n hours a person has most; of like ones the first; how many");
        SparrowChange x = Check.of("t0 24;p2 7 0;p0 12 0;p0 0 0;");
        Check.due("a miser, always alike", x.most(0, 100, 0), 0);
        Check.due("how many", x.most(0, 100, 1), 7);
        Check.due("never any", x.most(2, 100, 0), 0);
        Check.due("how many", x.most(2, 100, 1), 0);
        x.strew(0, 2);
        // it draws 2 and 2 in two hours (12, 10), then stays
        Check.due("0 hours", x.most(0, 0, 0), 0);
        Check.due("0 hours", x.most(0, 0, 1), 7);
        Check.due("1 hour", x.most(0, 1, 0), 1);
        Check.due("1 hour", x.most(0, 1, 1), 9);
        Check.due("2 hours", x.most(0, 2, 0), 2);
        Check.due("2 hours", x.most(0, 2, 1), 11);
        Check.due("3 hours are alike", x.most(0, 3, 0), 2);
        Check.due("100 hours are alike", x.most(0, 100, 0), 2);
        Check.due("100 hours", x.most(0, 100, 1), 11);
        SparrowChange late = Check.of("t0 24;p2 0 0;p2 0 0;");
        Check.due("nobody loses", late.most(0, 100, 0), 0);
    }

    private static void keptToTheNextDusk() {
        Check.says("section 3: kept: in the hour of the next dusk, all but dusk itself being done");
        for (int d = 1; d <= 24; d++) {
            SparrowChange x = Check.of("t0 " + d + ";p0 99 0;p2 9 0;p3 50 0;");
            SparrowChange noDusk = Check.of("t0 24;p0 99 0;p2 9 0;p3 50 0;");
            for (int p = 0; p < 3; p++) {
                // 24 hours are told by hand: in the last hour the loss of what an hour ahead was there is gone, too
                int due = d < 24 ? noDusk.hat(p, d) : lessALoss(p, noDusk.hat(p, 23));
                Check.due("D " + d + " kept by " + p, x.kept(p), due);
            }
        }
        SparrowChange x = Check.of("t0 3;p0 99 0;");
        Check.due("three hours", x.kept(0), 71);
        x.hour(1);
        Check.due("two hours", x.kept(0), 71);
        x.hour(1);
        Check.due("one hour", x.kept(0), 71);
        x.hour(1);
        Check.due("at dusk it is the next one", x.kept(0), 0);
        x.count(0, 99);
        Check.due("three hours again", x.kept(0), 71);
        Check.says("section 3: kept: in the hour of dusk crumbs draw, too");
        SparrowChange drawn = Check.of("t0 1;p0 99 0;p0 0 0;");
        drawn.strew(1, 1);
        Check.due("the drawer", drawn.kept(1), 10);
        Check.due("who loses", drawn.kept(0), 89);
    }

    private static int lessALoss(int p, int birds) {
        int loss = birds == 0 ? 0 : birds / 10 + 1;
        return p == 1 ? birds : p == 0 ? birds - loss : birds - Math.min(birds, 2 * loss);
    }

    private static void settledWhole() {
        Check.says("section 3: settled: each whole, from what is in the hat then");
        SparrowChange x = Check.of("t50 6;p0 8 0;p0 0 0;d0 1 9;");
        Check.due("8 of 9", x.settled(0), 0);
        Check.due("no row", x.settled(1), 0);
        x.count(0, 1);
        Check.due("9 of 9", x.settled(0), 1);
        Check.due("row", x.settled(1), 1);
        x.pay(0, 1, 4);
        Check.due("what is owed yet, 5 of 5", x.settled(0), 1);
        x.count(0, 9);
        x.pay(0, 1, 5);
        Check.due("nothing is owed", x.settled(0), 0);
        Check.due("no row", x.settled(1), 0);
        Check.says("section 3: settled: what came by a debt can pay another");
        SparrowChange chain = Check.of("t50 6;p0 0 0;p0 0 0;p0 9 0;d0 1 9;d1 0 9;d2 1 9;");
        Check.due("in turn", chain.settled(0), 3);
        Check.due("row", chain.settled(1), 321);
        Check.says("section 3: settled: a net, crumbs and the tree have no part in it");
        SparrowChange net = Check.of("t50 6;p0 9 0;p0 0 0;d0 1 9;");
        net.net(0, true);
        net.strew(1, 50);
        Check.due("one", net.settled(0), 1);
    }

    private static void settledNone() {
        Check.says("promise 20: the row (0: none)");
        Check.due("no debts", Check.of("t50 6;p0 9 0;").settled(1), 0);
        Check.due("none can be", Check.of("t50 6;p0 0 0;p0 0 0;d0 1 1;d1 0 1;").settled(1), 0);
    }

    private static void settledLeastRow() {
        Check.says("section 3: settled: a row of so many: the least one");
        SparrowChange x = Check.of("t50 6;p0 9 0;p0 0 0;p0 0 0;d0 1 9;d0 2 9;d1 0 9;");
        Check.due("all", x.settled(0), 3);
        Check.due("row", x.settled(1), 132);
        SparrowChange two = Check.of("t50 6;p0 9 0;p0 0 0;p0 0 0;d0 1 5;d0 2 5;d0 1 4;");
        Check.due("two of three", two.settled(0), 2);
        Check.due("the least of 13, 23, 31, 32", two.settled(1), 13);
        SparrowChange most = Check.of("t50 6;p0 9 0;p0 0 0;p0 0 0;d0 1 9;d0 2 5;d0 2 4;");
        Check.due("the most that can be goes ahead of the least figure", most.settled(1), 23);
        SparrowChange free = Check.of("t50 6;p0 99 0;p0 0 0;" + "d0 1 1;".repeat(4));
        free.pay(0, 1, 1);
        Check.due("figures are 1 more than the debt", free.settled(1), 234);
        Check.due("how many", free.settled(0), 3);
    }

    private static void settledNine() {
        Check.says("section 3: settled, of nine debts");
        String two = "t50 6;p0 99 0;p0 0 0;";
        SparrowChange all = Check.of(two + "d0 1 11;".repeat(9));
        Check.due("all", all.settled(0), 9);
        Check.due("row", all.settled(1), 123456789);
        SparrowChange one = Check.of("t50 6;p0 98 0;p0 0 0;" + "d0 1 11;".repeat(9));
        Check.due("a bird less", one.settled(0), 8);
        Check.due("row", one.settled(1), 12345678);
        // nine debts along a chain of persons that must be paid from its end
        SparrowChange back = Check.of("t50 6;p0 0 0;p0 0 0;p0 0 0;p0 0 0;p0 0 0;p0 0 0;p0 9 0;"
            + "d0 1 9;d1 2 9;d2 3 9;d3 4 9;d4 5 9;d5 6 9;d6 0 9;d6 5 9;d5 6 9;");
        Check.due("all", back.settled(0), 9);
        Check.due("row", back.settled(1), 712345689);
    }

    private static void floatLeast() {
        Check.says("section 3: float: with how many birds more at least all debts can be paid so");
        SparrowChange x = Check.of("t50 6;p0 8 0;p0 0 0;d0 1 9;");
        Check.due("one more", x.toFloat(0), 1);
        x.count(0, 1);
        Check.due("none more", x.toFloat(0), 0);
        Check.due("none more, whoever", x.toFloat(1), 0);
        SparrowChange big = Check.of("t50 6;p0 0 0;p0 0 0;" + "d0 1 99;".repeat(9));
        Check.due("the most there can be", big.toFloat(0), 891);
        SparrowChange back = Check.of("t50 6;p0 0 0;p0 0 0;d0 1 99;d1 0 99;d0 1 99;");
        Check.due("what comes back pays again", back.toFloat(0), 99);
        Check.due("the other one pays once, too", back.toFloat(1), Check.NONE);
        SparrowChange small = Check.of("t50 6;p0 0 0;p0 0 0;d0 1 3;d1 0 99;");
        Check.due("1 lacks 96 yet", small.toFloat(0), Check.NONE);
        Check.due("1 begins", small.toFloat(1), 99);
        small.count(1, 50);
        Check.due("1 has 50", small.toFloat(1), 49);
    }

    private static void floatNone() {
        Check.says("promise 21: NONE");
        SparrowChange x = Check.of("t50 6;p0 0 0;p0 0 0;p0 0 0;d0 1 9;");
        Check.due("of who owes", x.toFloat(0), 9);
        Check.due("of who is owed", x.toFloat(1), Check.NONE);
        Check.due("of another one", x.toFloat(2), Check.NONE);
        SparrowChange two = Check.of("t50 6;p0 0 0;p0 0 0;p0 0 0;d0 2 9;d1 2 9;");
        Check.due("two lack", two.toFloat(0), Check.NONE);
        Check.due("two lack", two.toFloat(1), Check.NONE);
        SparrowChange bird = Check.of("t50 6;p0 0 0;p0 8 0;p0 0 0;d1 2 9;");
        Check.due("another one lacks a single bird", bird.toFloat(0), Check.NONE);
        Check.due("who lacks it", bird.toFloat(1), 1);
    }

    private static void floatNought() {
        Check.says("section 3: float, where nothing is owed");
        SparrowChange x = Check.of("t50 6;p0 9 0;p0 0 0;d0 1 9;");
        x.pay(0, 1, 9);
        Check.due("all is paid", x.toFloat(0), 0);
        Check.due("all is paid", x.toFloat(1), 0);
        SparrowChange rest = Check.of("t50 6;p0 8 0;p0 0 0;d0 1 9;");
        rest.pay(0, 1, 8);
        Check.due("all but one is paid", rest.toFloat(0), 1);
        Check.due("all but one is paid", rest.settled(0), 0);
        rest.count(0, 1);
        Check.due("all but one is paid, and it is there", rest.toFloat(0), 0);
        Check.due("all but one is paid, and it is there", rest.settled(0), 1);
    }

    private static void netsFewest() {
        Check.says("section 3: nets: the fewest persons who must get a net now");
        SparrowChange x = Check.of("t0 24;p0 10 0;p0 20 0;p0 90 0;");
        // they lose 2, 3, 10 in an hour
        Check.due("all may lose", x.nets(105, 1), 0);
        Check.due("1 less", x.nets(106, 1), 1);
        Check.due("2 less", x.nets(107, 1), 1);
        Check.due("3 less", x.nets(108, 1), 2);
        Check.due("4 less: one is fewer than two, though a greater set", x.nets(109, 1), 4);
        Check.due("10 less", x.nets(115, 1), 4);
        Check.due("11 less", x.nets(116, 1), 5);
        Check.due("13 less", x.nets(118, 1), 6);
        Check.due("14 less", x.nets(119, 1), 7);
        Check.due("nothing may be lost", x.nets(120, 1), 7);
        Check.due("for 23 hours", x.nets(120, 23), 7);
    }

    private static void netsLikeOnes() {
        Check.says("section 3: nets: of like ones the least");
        SparrowChange x = Check.of("t0 24;p2 0 0;" + "p0 9 0;".repeat(6));
        Check.due("none", x.nets(48, 1), 0);
        Check.due("one", x.nets(49, 1), 2);
        Check.due("two", x.nets(50, 1), 6);
        Check.due("three", x.nets(51, 1), 14);
        Check.due("six", x.nets(54, 1), 126);
        SparrowChange all = Check.of("t0 24;" + "p0 9 0;".repeat(7));
        Check.due("six of seven", all.nets(62, 1), 63);
        Check.due("seven of seven", all.nets(63, 1), 127);
    }

    private static void netsNone() {
        Check.says("promise 22: NONE");
        SparrowChange x = Check.of("t999 24;p0 10 0;p0 20 0;");
        Check.due("as many as there are", x.nets(30, 23), 3);
        Check.due("one more than there are", x.nets(31, 23), Check.NONE);
        Check.due("9999", x.nets(9999, 1), Check.NONE);
        Check.due("dusk", x.nets(1, 24), Check.NONE);
        Check.due("dusk, of 0", x.nets(0, 24), 0);
        SparrowChange miser = Check.of("t999 1;p2 10 0;p0 20 0;");
        Check.due("a miser's stay at dusk", miser.nets(10, 24), 0);
        Check.due("no other's", miser.nets(11, 24), Check.NONE);
    }

    private static void netsBesides() {
        Check.says("section 3: nets: who must get one besides");
        SparrowChange x = Check.of("t0 24;p0 10 0;p0 20 0;p0 90 0;");
        x.net(2, true);
        Check.due("it has one", x.nets(115, 1), 0);
        Check.due("another one", x.nets(116, 1), 1);
        Check.due("another one", x.nets(118, 1), 2);
        Check.due("both others", x.nets(120, 1), 3);
        Check.due("nothing changes by it", x.told(7), 4);
        x.net(0, true);
        x.net(1, true);
        Check.due("all have one", x.nets(120, 1), 0);
        Check.due("no more to get", x.nets(121, 1), Check.NONE);
    }

    private static void calm() {
        Check.says("promise 23: odds of n hours (0 .. 60), each by q of a hundred (0 .. 100), cut each");
        SparrowChange x = new SparrowChange();
        for (int q = 0; q <= 100; q++) {
            Check.due("no hours by " + q, x.calm(0, q), 1000000000);
            Check.due("one hour by " + q, x.calm(1, q), q * 10000000);
            long odds = 1000000000L;
            for (int i = 0; i < 60; i++) {
                odds = odds * q / 100;
            }
            Check.due("sixty hours by " + q, x.calm(60, q), (int) odds);
        }
        Check.due("six hours by 77", x.calm(6, 77), 208422379);
        Check.due("five hours by 1", x.calm(5, 1), 0);
        Check.due("four hours by 1", x.calm(4, 1), 10);
    }
}
