import java.math.BigInteger;

/** The edges of section 2 and of promises 9 to 16: bounds of what is done, crumbs, dusk, late hours, draws, what is undone. */
public final class DeedEdgesTest {
    private static final int[] FAR = {Integer.MIN_VALUE, -1000000001, -64, -32, -2, -1, 1 << 16, 1 << 30, Integer.MAX_VALUE};

    public static void main(String[] args) {
        countBounds();
        countAllOfTheTree();
        payBounds();
        payDebtsAsTheyCome();
        strewBounds();
        ninetyNineCrumbs();
        netUnknown();
        hawkBounds();
        hawkReach();
        sevenPersons();
        hourBounds();
        drawers();
        crumbsHalved();
        duskByHours();
        hoursAboveNineThousand();
        undoSixteen();
        undoAcrossTheRing();
        undoOfEach();
        undoNone();
        Draws.all();
        Check.finish();
    }

    private static void countBounds() {
        Check.says("promise 9: n birds (1 .. 999); UNKNOWN, OUTSIDE");
        SparrowChange x = Check.of("t999 1;p0 99 0;p2 0 0;");
        for (int far : FAR) {
            Check.due("count by " + far, x.count(far, 1), Check.UNKNOWN);
            Check.due("count of " + far, x.count(0, far), Check.OUTSIDE);
        }
        Check.due("person 2", x.count(2, 1), Check.UNKNOWN);
        Check.due("0", x.count(0, 0), Check.OUTSIDE);
        Check.due("1000", x.count(0, 1000), Check.OUTSIDE);
        x.hour(1);
        Check.due("the tree has 1098", x.told(5), 1098);
        Check.due("1000 of 1098", x.count(0, 1000), Check.OUTSIDE);
        Check.due("999 of 1098", x.count(1, 999), 999);
        Check.due("100 of 99", x.count(1, 100), Check.NOT);
        Check.due("99 of 99", x.count(1, 99), 1098);
        Check.due("the tree is empty", x.told(5), 0);
    }

    private static void countAllOfTheTree() {
        Check.says("promise 9: NOT: the tree has not so many");
        SparrowChange x = Check.of("t5 9;p0 0 0;p0 0 0;");
        Check.due("6 of 5", x.count(0, 6), Check.NOT);
        Check.due("nothing came", x.person(0, 1), 0);
        Check.due("5 of 5", x.count(0, 5), 5);
        Check.due("1 of 0", x.count(0, 1), Check.NOT);
        Check.due("the ringed one", x.told(8), 0);
        x.hawk(0, 50);
        Check.due("1 of 5", x.count(1, 1), 1);
        Check.due("the ringed one is the first to go", x.told(8), 1);
    }

    private static void payBounds() {
        Check.says("promise 10: n birds (1 .. 999); UNKNOWN, OUTSIDE");
        SparrowChange x = Check.of("t999 9;p0 99 0;p2 0 0;");
        for (int far : FAR) {
            Check.due("pay by " + far, x.pay(far, 0, 1), Check.UNKNOWN);
            Check.due("pay to " + far, x.pay(0, far, 1), Check.UNKNOWN);
            Check.due("pay of " + far, x.pay(0, 1, far), Check.OUTSIDE);
        }
        Check.due("by person 2", x.pay(2, 0, 1), Check.UNKNOWN);
        Check.due("to person 2", x.pay(0, 2, 1), Check.UNKNOWN);
        Check.due("0", x.pay(0, 1, 0), Check.OUTSIDE);
        Check.due("1000", x.pay(0, 1, 1000), Check.OUTSIDE);
        x.count(0, 999);
        Check.due("1000 of 1098", x.pay(0, 1, 1000), Check.OUTSIDE);
        Check.due("999 of 1098", x.pay(0, 1, 999), 0);
        Check.due("came", x.person(1, 1), 999);
        Check.due("100 of 99", x.pay(0, 1, 100), Check.NOT);
        Check.due("99 of 99", x.pay(0, 1, 99), 0);
        Check.due("1 of 0", x.pay(0, 1, 1), Check.NOT);
        Check.says("terms: UNKNOWN: one twice, where two are asked");
        Check.due("to itself", x.pay(1, 1, 1), Check.UNKNOWN);
        Check.due("to itself, that has none", x.pay(0, 0, 1), Check.UNKNOWN);
    }

    private static void payDebtsAsTheyCome() {
        Check.says("section 2: paid: what the one owes the other (debts as they come) is as much less");
        SparrowChange x = Check.of("t0 9;p0 99 0;p0 99 0;p0 0 0;d0 1 3;d1 0 4;d0 2 5;d0 1 6;d0 1 7;");
        int[][] steps = {{2, 14, 1, 6, 7}, {1, 13, 0, 6, 7}, {7, 6, 0, 0, 6}, {5, 1, 0, 0, 1}, {2, 0, 0, 0, 0}, {1, 0, 0, 0, 0}};
        for (int[] step : steps) {
            Check.due("pay " + step[0], x.pay(0, 1, step[0]), step[1]);
            Check.due("the first", x.debt(0, 2), step[2]);
            Check.due("the fourth", x.debt(3, 2), step[3]);
            Check.due("the fifth", x.debt(4, 2), step[4]);
        }
        Check.due("back is owed yet", x.debt(1, 2), 4);
        Check.due("to another one is owed yet", x.debt(2, 2), 5);
        Check.due("who owes nothing", x.pay(2, 0, 1), Check.NOT);
        Check.due("all at once and more", x.pay(1, 0, 117), 0);
        Check.due("not below 0", x.debt(1, 2), 0);
    }

    private static void strewBounds() {
        Check.says("promise 11: strewn (n 1 .. 99); UNKNOWN, OUTSIDE");
        SparrowChange x = Check.of("t9 9;p0 9 0;");
        for (int far : FAR) {
            Check.due("strew by " + far, x.strew(far, 1), Check.UNKNOWN);
            Check.due("strew of " + far, x.strew(0, far), Check.OUTSIDE);
        }
        Check.due("person 1", x.strew(1, 1), Check.UNKNOWN);
        Check.due("0", x.strew(0, 0), Check.OUTSIDE);
        Check.due("100", x.strew(0, 100), Check.OUTSIDE);
        Check.due("1", x.strew(0, 1), 1);
    }

    private static void ninetyNineCrumbs() {
        Check.says("section 2: crumbs are n more (99 at most)");
        SparrowChange x = Check.of("t9 9;p0 9 0;");
        Check.due("99", x.strew(0, 99), 99);
        Check.due("and 1", x.strew(0, 1), 99);
        x.undo();
        x.undo();
        Check.due("98", x.strew(0, 98), 98);
        Check.due("and 1", x.strew(0, 1), 99);
        x.undo();
        Check.due("and 2", x.strew(0, 2), 99);
        Check.due("kept", x.person(0, 3), 99);
    }

    private static void netUnknown() {
        Check.says("promise 12: 1 there was, 0 not; UNKNOWN");
        SparrowChange x = Check.of("t9 9;" + "p0 9 0;".repeat(7));
        for (int far : FAR) {
            Check.due("net of " + far, x.net(far, true), Check.UNKNOWN);
            Check.due("net of " + far, x.net(far, false), Check.UNKNOWN);
        }
        Check.due("person 7", x.net(7, true), Check.UNKNOWN);
        Check.due("no nets", x.told(7), 0);
        Check.due("given away, none", x.net(6, false), 0);
        Check.due("got", x.net(6, true), 0);
        Check.due("got again", x.net(6, true), 1);
        Check.due("given away", x.net(6, false), 1);
        Check.due("given away again", x.net(6, false), 0);
    }

    private static void hawkBounds() {
        Check.says("promise 13: a door (0 .. 50), n (0 .. 50) off; OUTSIDE, NOT: no parish");
        SparrowChange x = Check.of("t9 9;p0 9 0;p0 8 50;");
        SparrowChange none = new SparrowChange();
        for (int far : FAR) {
            Check.due("hawk at " + far, x.hawk(far, 0), Check.OUTSIDE);
            Check.due("hawk of " + far, x.hawk(0, far), Check.OUTSIDE);
            Check.due("hawk at " + far + ", no parish", none.hawk(far, 0), Check.OUTSIDE);
        }
        Check.due("at 51", x.hawk(51, 0), Check.OUTSIDE);
        Check.due("of 51", x.hawk(0, 51), Check.OUTSIDE);
        Check.due("at 50 of 50, no parish", none.hawk(50, 50), Check.NOT);
        Check.due("at 0 of 49", x.hawk(0, 49), 9);
        x.undo();
        Check.due("at 50 of 49", x.hawk(50, 49), 8);
        x.undo();
        Check.due("at 0 of 50", x.hawk(0, 50), 17);
        x.undo();
        Check.due("at 50 of 50", x.hawk(50, 50), 17);
        Check.due("none is left", x.hawk(50, 50), 0);
    }

    private static void hawkReach() {
        Check.says("section 2: who is n doors off or less, with no net, loses all birds to the tree");
        for (int n = 0; n <= 20; n++) {
            SparrowChange x = Check.of("t0 9;p0 1 " + (25 - n) + ";p2 2 " + (25 + n) + ";p1 4 " + (24 - n) + ";p3 8 " + (26 + n)
                + ";p4 16 25;");
            x.net(4, true);
            Check.due("of " + n, x.hawk(25, n), 3);
            Check.due("the tree", x.told(5), 3);
            Check.due("hats", x.told(6), 28);
            Check.due("hours", x.told(4), 0);
        }
    }

    private static void sevenPersons() {
        Check.says("section 2: of seven persons and nine debts");
        String text = "t900 2;" + "p0 50 9;".repeat(6) + "p0 50 50;" + "d6 0 50;".repeat(9);
        SparrowChange x = Check.of(text);
        Check.due("hawk at 50", x.hawk(50, 0), 50);
        Check.due("hawk everywhere", x.hawk(25, 25), 300);
        x.undo();
        x.undo();
        Check.due("an hour", x.hour(1), 942);
        Check.due("dusk", x.hour(1), 1250);
        Check.due("no bird is in a hat", x.told(6), 0);
        x.undo();
        x.undo();
        Check.due("strewn by the last", x.strew(6, 99), 99);
        x.hour(1);
        Check.due("the last draws", x.person(6, 1), 86);
        Check.due("the last pays", x.pay(6, 0, 60), 390);
        Check.due("the first debt", x.debt(0, 2), 0);
        Check.due("the second debt", x.debt(1, 2), 40);
        Check.due("the ninth debt", x.debt(8, 2), 50);
        Check.due("counted out to the last", x.count(6, 900), 926);
        Check.due("it pays all", x.pay(6, 0, 390), 0);
        Check.due("the ninth debt", x.debt(8, 2), 0);
    }

    private static void hourBounds() {
        Check.says("promises 14, 15: n hours (1 .. 60); OUTSIDE, NOT: no parish");
        SparrowChange x = Check.of("t9 24;p2 9 0;");
        SparrowChange none = new SparrowChange();
        for (int far : FAR) {
            Check.due("hour " + far, x.hour(far), Check.OUTSIDE);
            Check.due("drift " + far, x.drift(far), Check.OUTSIDE);
            Check.due("hour " + far + ", no parish", none.hour(far), Check.OUTSIDE);
            Check.due("drift " + far + ", no parish", none.drift(far), Check.OUTSIDE);
        }
        for (int n : new int[] {0, 61}) {
            Check.due("hour " + n, x.hour(n), Check.OUTSIDE);
            Check.due("drift " + n, x.drift(n), Check.OUTSIDE);
        }
        for (int n : new int[] {1, 60}) {
            Check.due("hour " + n + ", no parish", none.hour(n), Check.NOT);
            Check.due("drift " + n + ", no parish", none.drift(n), Check.NOT);
        }
        Check.due("no draw was made", none.seed(0), 0);
        Check.due("no hours went by", x.told(4), 0);
        x.hour(1);
        Check.due("one", x.told(4), 1);
        x.hour(60);
        Check.due("sixty more", x.told(4), 61);
        x.drift(1);
        Check.due("one more", x.told(4), 62);
        x.drift(60);
        Check.due("sixty more", x.told(4), 122);
    }

    private static void drawers() {
        Check.says("section 2: the person with most crumbs (of like ones the least; the drawer's own stay)");
        SparrowChange x = Check.of("t0 24;p0 50 0;p0 50 0;p0 50 0;");
        x.strew(2, 1);
        x.hour(1);
        Check.due("one crumb draws: the drawer", x.person(2, 1), 62);
        Check.due("one crumb draws: others", x.person(0, 1), 44);
        Check.due("the tree gets nothing", x.told(5), 0);
        x.undo();
        x.strew(1, 1);
        x.hour(1);
        Check.due("of like ones the least", x.person(1, 1), 62);
        Check.due("the other one loses", x.person(2, 1), 44);
        x.undo();
        x.strew(2, 1);
        x.hour(1);
        Check.due("most", x.person(2, 1), 62);
        Check.says("section 2: or to the tree, if nobody has crumbs");
        SparrowChange y = Check.of("t0 24;p0 50 0;p0 50 0;");
        Check.due("nobody has", y.hour(1), 12);
        Check.says("section 2: by what there is ahead of it");
        SparrowChange z = Check.of("t0 24;p0 9 0;p0 1 0;p0 9 0;p4 20 0;");
        z.strew(1, 1);
        z.strew(3, 1);
        z.hour(1);
        int[] due = {8, 3, 8, 20};
        for (int p = 0; p < due.length; p++) {
            Check.due("hat " + p, z.person(p, 1), due[p]);
        }
        Check.says("section 2: a drawer with a net, a miser as a drawer");
        SparrowChange miser = Check.of("t0 24;p0 50 0;p2 0 0;");
        miser.strew(1, 5);
        miser.net(1, true);
        miser.hour(1);
        Check.due("it draws", miser.person(1, 1), 6);
    }

    private static void crumbsHalved() {
        Check.says("section 2: then all crumbs are a half (cut)");
        SparrowChange x = Check.of("t0 24;p0 50 0;p0 50 0;");
        x.strew(0, 99);
        x.strew(1, 1);
        int[] due = {49, 24, 12, 6, 3, 1, 0, 0};
        for (int crumbs : due) {
            x.hour(1);
            Check.due("the first", x.person(0, 3), crumbs);
            Check.due("the second", x.person(1, 3), 0);
        }
    }

    private static void duskByHours() {
        Check.says("section 2: if D goes into them without rest now, it is dusk: all birds of all but misers fly to the tree");
        for (int d = 1; d <= 24; d++) {
            SparrowChange x = Check.of("t1 " + d + ";p1 5 0;p2 7 0;p3 9 0;p0 6 0;p4 8 0;");
            for (int p = 0; p < 5; p++) {
                x.net(p, true);
            }
            if (d > 1) {
                Check.due("D " + d + ", an hour ahead", x.hour(d - 1), 1);
            }
            Check.due("D " + d, x.hour(1), 29);
            Check.due("a miser's", x.person(1, 1), 7);
            Check.due("all hats", x.told(6), 7);
            x.count(0, 5);
            if (d > 1) {
                Check.due("D " + d + ", an hour ahead of the second", x.hour(d - 1), 24);
            }
            Check.due("D " + d + ", the second", x.hour(1), 29);
            Check.due("hours", x.told(4), 2 * d);
        }
    }

    private static void hoursAboveNineThousand() {
        Check.says("promises 14, 15: FULL: hours are above 9000");
        SparrowChange x = Check.of("t5 7;p2 3 5;");
        for (int i = 0; i < 149; i++) {
            x.hour(60);
        }
        x.hour(59);
        Check.due("8999", x.told(4), 8999);
        Check.due("from 8999 on", x.hour(1), 5);
        Check.due("9000", x.told(4), 9000);
        Check.due("from 9000 on", x.hour(1), 5);
        Check.due("9001", x.told(4), 9001);
        x.seed(7);
        Check.due("hour", x.hour(1), Check.FULL);
        Check.due("hour", x.hour(60), Check.FULL);
        Check.due("drift", x.drift(1), Check.FULL);
        Check.due("drift", x.drift(60), Check.FULL);
        Check.due("outside is first", x.hour(0), Check.OUTSIDE);
        Check.due("outside is first", x.drift(61), Check.OUTSIDE);
        Check.due("no hour went by", x.told(4), 9001);
        Check.due("no draw was made", x.seed(7), 7);
        Check.due("undone", x.undo(), 15);
        Check.due("9000", x.told(4), 9000);
        Check.due("sixty from 9000 on", x.hour(60), 5);
        Check.due("9060", x.told(4), 9060);
        Check.due("hour", x.hour(1), Check.FULL);
        Check.due("other deeds are not refused", x.count(0, 5), 8);
        Check.due("what is tried is not refused", x.hat(0, 100), 8);
        Check.due("kept", x.kept(0), 8);
        Check.due("undone", x.undo(), 15);
        Check.due("undone", x.undo(), 14);
        Check.due("drift from 9000 on", x.drift(60) < 0 ? 0 : 1, 1);
        Check.due("9060", x.told(4), 9060);
        Check.feed(x, "t5 7;");
        x.parish();
        Check.due("a new parish has hour 0", x.hour(1), 5);
    }

    private static void undoSixteen() {
        Check.says("section 3: undone (16 at most are kept, the oldest are lost)");
        for (int deeds : new int[] {15, 16, 17, 33}) {
            SparrowChange x = Check.of("t99 9;p0 9 0;");
            for (int i = 1; i <= deeds; i++) {
                x.count(0, 1);
                Check.due("can be undone behind " + i, x.told(17), Math.min(16, i));
            }
            int kept = Math.min(16, deeds);
            for (int i = kept - 1; i >= 0; i--) {
                Check.due("undo of " + deeds, x.undo(), i);
                Check.due("hat", x.person(0, 1), 9 + deeds - kept + i);
            }
            Check.due("no more of " + deeds, x.undo(), Check.NOT);
            Check.due("hat", x.person(0, 1), 9 + deeds - kept);
        }
    }

    private static void undoAcrossTheRing() {
        Check.says("section 3: undone, and done again, over and over");
        SparrowChange x = Check.of("t99 9;p0 0 0;");
        int[] hats = new int[64];
        int at = 0;
        int least = 0;
        for (int i = 0; i < 150; i++) {
            boolean back = i % 7 >= 4 && at > least;
            if (back) {
                at--;
                Check.due("undo " + i, x.undo(), at - least);
            } else {
                at++;
                hats[at] = hats[at - 1] + 1 + i % 2;
                x.count(0, 1 + i % 2);
                least = Math.max(least, at - 16);
            }
            Check.due("hat behind " + i, x.person(0, 1), hats[at]);
            if (hats[at] > 90) {
                break;
            }
        }
    }

    private static void undoOfEach() {
        Check.says("section 3: undone: all of section 2 is as ahead of it; the seed stays");
        for (int deed = 0; deed < 7; deed++) {
            SparrowChange x = Check.of("t50 6;p0 20 5;p2 30 9;p4 8 7;d0 1 15;d1 2 4;");
            x.strew(1, 9);
            x.net(2, true);
            x.hour(3);
            int[] before = state(x);
            doIt(x, deed);
            Check.due("can be undone", x.told(17), 4);
            Check.due("undo of deed " + deed, x.undo(), 3);
            int[] behind = state(x);
            for (int i = 0; i < before.length; i++) {
                Check.due("deed " + deed + " undone, answer " + i, behind[i], before[i]);
            }
        }
        SparrowChange x = Check.of("t50 6;p0 20 5;");
        x.seed(5);
        x.drift(9);
        int seed = x.seed(1);
        x.seed(seed);
        x.undo();
        Check.due("the seed stays", x.seed(0), seed);
        Check.due("what was seen stays", seenBehindUndo(), 3);
    }

    private static int seenBehindUndo() {
        SparrowChange x = Check.of("t50 6;p0 20 5;");
        x.strew(0, 1);
        x.watch(1);
        x.feel(1, 1, true);
        x.write(0, 1);
        x.undo();
        return x.tear();
    }

    private static void doIt(SparrowChange x, int deed) {
        switch (deed) {
            case 0: x.count(0, 9); break;
            case 1: x.pay(1, 0, 20); x.undo(); x.pay(0, 1, 3); break;
            case 2: x.strew(1, 9); break;
            case 3: x.net(0, true); break;
            case 4: x.hawk(7, 10); break;
            case 5: x.hour(25); break;
            default: x.drift(40); break;
        }
    }

    private static int[] state(SparrowChange x) {
        int[] all = new int[80];
        int n = 0;
        for (int what = 0; what <= 17; what++) {
            all[n++] = x.told(what);
        }
        for (int p = 0; p < 3; p++) {
            for (int what = 0; what <= 9; what++) {
                all[n++] = x.person(p, what);
            }
        }
        for (int i = 0; i <= 20; i++) {
            all[n++] = x.trace(i);
        }
        all[n++] = x.debt(0, 2);
        all[n++] = x.debt(1, 2);
        return all;
    }

    private static void undoNone() {
        Check.says("promise 16: NOT: none");
        SparrowChange x = new SparrowChange();
        Check.due("no parish", x.undo(), Check.NOT);
        Check.feed(x, "t5 5;p0 3 1;");
        x.parish();
        Check.due("a new parish", x.undo(), Check.NOT);
        x.count(0, 1);
        Check.due("one", x.undo(), 0);
        Check.due("what is undone is not done again", x.undo(), Check.NOT);
        x.count(0, 1);
        x.keep(0);
        Check.due("behind keep", x.undo(), Check.NOT);
        x.count(0, 1);
        Check.due("since keep", x.undo(), 0);
        x.count(0, 1);
        x.goBack(0);
        Check.due("behind goBack", x.undo(), Check.NOT);
        x.watch(1);
        x.feel(1, 1, true);
        x.write(0, 0);
        x.seed(1);
        x.hat(0, 1);
        x.tear();
        Check.due("what is seen, tried and drawn is not undone", x.undo(), Check.NOT);
    }

    /** Days by draws: the seeds by whole numbers without bound, so that nothing wraps around here. */
    private static final class Draws {
        private static final BigInteger LEFT_OVER_BY = BigInteger.TWO.pow(31);

        static void all() {
            seedLeftOver();
            nobodyDraws();
            countedOut();
            strewn();
            hawk();
        }

        private static int next(int seed) {
            return BigInteger.valueOf(seed).multiply(BigInteger.valueOf(1103515245)).add(BigInteger.valueOf(12345))
                .mod(LEFT_OVER_BY).intValueExact();
        }

        private static int draw(int seed, int n) {
            return seed / 65536 % n;
        }

        private static void seedLeftOver() {
            Check.says("section 3: the seed left over by 2 to the 31");
            int[] seeds = {0, 1, 2, 12345, 65535, 65536, 1 << 30, Integer.MAX_VALUE - 1, Integer.MAX_VALUE};
            for (int first : seeds) {
                SparrowChange x = Check.of("t50 6;p2 20 5;p2 20 9;p2 20 13;");
                x.seed(first);
                int seed = first;
                for (int i = 0; i < 40; i++) {
                    x.drift(1);
                    seed = next(seed);
                    int deed = draw(seed, 5);
                    int more = deed == 0 ? 1 : deed <= 2 ? 2 : 0;
                    for (int k = 0; k < more; k++) {
                        seed = next(seed);
                    }
                    int got = x.seed(0);
                    x.seed(got);
                    Check.due("seed behind hour " + i + " from " + first, got, seed);
                }
            }
        }

        private static void nobodyDraws() {
            Check.says("section 3: ahead of each, if there are persons, a draw of 5");
            SparrowChange x = Check.of("t50 6;");
            x.seed(Integer.MAX_VALUE);
            Check.due("the tree", x.drift(60), 50);
            Check.due("the seed", x.seed(0), Integer.MAX_VALUE);
        }

        private static void countedOut() {
            Check.says("section 3: on 0 a draw of persons is counted out 9 birds (what the tree has, if that is less)");
            for (int tree : new int[] {0, 1, 8, 9, 10}) {
                for (int persons = 1; persons <= 7; persons++) {
                    SparrowChange x = Check.of("t" + tree + " 24;" + "p2 0 0;".repeat(persons));
                    // from 0 the first draw of 5 is 0
                    int p = draw(next(next(0)), persons);
                    Check.due("a draw of 5 from 0", draw(next(0), 5), 0);
                    int gets = Math.min(9, tree);
                    Check.due("the tree of " + tree, x.drift(1), tree - gets);
                    Check.due("the hat of " + p, x.person(p, 1), gets);
                    Check.due("where the ringed one is", x.told(8), gets == 0 ? -2 : p);
                }
            }
        }

        /** The first seed with this deed, and these two draws behind it. */
        private static int seedFor(int deed, int n1, int draw1, int n2, int draw2) {
            for (int first = 0; first < 1000000; first++) {
                int a = next(first);
                int b = next(a);
                if (draw(a, 5) == deed && draw(b, n1) == draw1 && draw(next(b), n2) == draw2) {
                    return first;
                }
            }
            Check.fail("no seed for deed " + deed);
            return 0;
        }

        private static void strewn() {
            Check.says("section 3: on 1 a draw of persons has a draw of 20 crumbs strewn (99 at most)");
            for (int crumbs : new int[] {0, 1, 2, 19}) {
                SparrowChange x = Check.of("t5 24;p2 0 0;p0 50 0;p2 0 0;");
                int seed = seedFor(1, 3, 2, 20, crumbs);
                x.seed(seed);
                x.drift(1);
                Check.due(crumbs + " crumbs, halved", x.person(2, 3), crumbs / 2);
                Check.due(crumbs + " crumbs draw", x.person(2, 1), crumbs > 0 ? 6 : 0);
                x.undo();
                x.strew(2, 99);
                x.seed(seed);
                x.drift(1);
                Check.due("99 and " + crumbs + ", halved", x.person(2, 3), 49);
                x.undo();
                x.undo();
                x.strew(2, 80);
                x.seed(seed);
                x.drift(1);
                Check.due("80 and " + crumbs + ", halved", x.person(2, 3), (80 + crumbs) / 2);
            }
        }

        private static void hawk() {
            Check.says("section 3: on 2 there is a hawk at a draw of 51, of a draw of 10");
            for (int door : new int[] {0, 20, 50}) {
                for (int off : new int[] {0, 9}) {
                    int near = door < 25 ? door + off : door - off;
                    int farther = door < 25 ? near + 1 : near - 1;
                    SparrowChange x = Check.of("t5 24;p2 7 " + near + ";p2 3 " + farther + ";");
                    x.seed(seedFor(2, 51, door, 10, off));
                    Check.due("hawk at " + door + " of " + off, x.drift(1), 12);
                    Check.due("just near enough", x.person(0, 1), 0);
                    Check.due("just too far", x.person(1, 1), 3);
                }
            }
        }
    }
}
