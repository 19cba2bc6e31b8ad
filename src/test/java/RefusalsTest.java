import java.util.ArrayList;
import java.util.List;

/**
 * Refusals: of several the first in the order UNKNOWN, OUTSIDE, NOT, FULL; what is refused changes nothing. Two objects
 * are made by the same calls; one of them is asked what is refused, then both must answer all else alike.
 */
public final class RefusalsTest {
    private interface Call {
        int on(SparrowChange x);
    }

    private interface Making {
        SparrowChange make();
    }

    private static final int MANY_LETTERS = 240;

    private static Making making;
    private static String state;

    public static void main(String[] args) {
        begin("a new object", SparrowChange::new);
        withoutParish();
        begin("without a parish, much seen", RefusalsTest::seenWithoutParish);
        withoutParish();
        fullOfSeen();
        begin("a busy parish", RefusalsTest::busy);
        ofPersons();
        begin("a full text", RefusalsTest::fullText);
        fullOfLetters();
        begin("all that can be seen", RefusalsTest::fullBook);
        fullOfSeen();
        fullOfEntries();
        begin("late hours", RefusalsTest::late);
        fullOfHours();
        begin("an empty tree, empty hats", RefusalsTest::poor);
        nothingToGive();
        begin("a tree without persons", () -> Check.of("t5 5;"));
        nobodyThere();
        farBelow();
        Check.finish();
    }

    private static void begin(String name, Making how) {
        state = name;
        making = how;
    }

    private static void refused(String name, int want, Call call) {
        Check.says("terms: refusals, " + state + ", " + name);
        SparrowChange asked = making.make();
        SparrowChange twin = making.make();
        Check.due("the refusal", call.on(asked), want);
        Check.due("the refusal again", call.on(asked), want);
        List<Integer> of = probe(asked);
        List<Integer> due = probe(twin);
        for (int i = 0; i < due.size(); i++) {
            Check.due("what was refused changed something: answer " + i, of.get(i), due.get(i));
        }
    }

    /** Reads what can be read, then undoes, goes back, drifts, reads the text: so that nothing hidden differs. */
    private static List<Integer> probe(SparrowChange x) {
        List<Integer> all = new ArrayList<>();
        for (int what = 0; what <= 17; what++) {
            all.add(x.told(what));
        }
        for (int what = 1; what <= 9; what++) {
            all.add(x.person(0, what));
            all.add(x.person(1, what));
        }
        all.add(x.debt(0, 2));
        all.add(x.trace(1));
        all.add(x.trace(2));
        all.add(x.reach(0));
        all.add(x.reach(3));
        all.add(x.judge());
        all.add(x.fault());
        int seed = x.seed(0);
        x.seed(seed);
        all.add(seed);
        all.add(x.undo());
        all.add(x.told(5));
        all.add(x.told(8));
        all.add(x.goBack(1));
        all.add(x.told(4));
        all.add(x.goBack(0));
        all.add(x.told(4));
        all.add(x.drift(5));
        all.add(x.seed(0));
        all.add(x.feed(';'));
        all.add(x.parish());
        all.add(x.fault());
        return all;
    }

    // ---- states

    private static SparrowChange busy() {
        SparrowChange x = Check.of("t50 6;p0 20 5;p1 30 9;d0 1 18;d1 0 20;");
        x.seed(77);
        x.strew(0, 3);
        x.keep(0);
        x.count(0, 5);
        x.pay(0, 1, 9);
        x.strew(1, 40);
        x.net(0, true);
        x.hour(2);
        x.watch(3);
        x.feel(1, 9, true);
        x.write(1, 4);
        Check.feed(x, "t1 2;p0 1 1");
        return x;
    }

    private static SparrowChange seenWithoutParish() {
        SparrowChange x = new SparrowChange();
        x.seed(3);
        x.keep(0);
        for (int i = 0; i < 6; i++) {
            x.watch(i);
            x.feel(i, 2 * i, true);
        }
        return x;
    }

    private static SparrowChange fullBook() {
        SparrowChange x = busy();
        for (int i = 1; i < 6; i++) {
            x.watch(3);
            x.feel(9, 1 + i, true);
        }
        for (int i = 1; i < 15; i++) {
            x.write(0, i);
        }
        return x;
    }

    private static SparrowChange fullText() {
        SparrowChange x = Check.of("t50 6;p0 20 5;p1 30 9;");
        Check.feed(x, "t9 3;p0 4 5");
        for (int i = 11; i < MANY_LETTERS; i++) {
            x.feed(' ');
        }
        return x;
    }

    private static SparrowChange late() {
        SparrowChange x = Check.of("t5 7;p2 3 5;p0 9 9;d0 1 2;");
        for (int i = 0; i < 150; i++) {
            x.hour(60);
        }
        x.hour(1);
        x.seed(5);
        return x;
    }

    private static SparrowChange poor() {
        SparrowChange x = Check.of("t0 7;p2 0 5;p0 0 9;d0 1 2;");
        x.keep(1);
        x.strew(0, 7);
        return x;
    }

    // ---- what is refused in them

    private static void withoutParish() {
        refused("feed", Check.OUTSIDE, x -> x.feed(256));
        refused("told", Check.OUTSIDE, x -> x.told(18));
        refused("person", Check.UNKNOWN, x -> x.person(0, 10));
        refused("debt", Check.UNKNOWN, x -> x.debt(0, 3));
        refused("count", Check.UNKNOWN, x -> x.count(0, 0));
        refused("pay", Check.UNKNOWN, x -> x.pay(0, 1, 1));
        refused("pay to itself", Check.UNKNOWN, x -> x.pay(0, 0, 0));
        refused("strew", Check.UNKNOWN, x -> x.strew(0, 100));
        refused("net", Check.UNKNOWN, x -> x.net(0, true));
        refused("hawk, outside ahead of not", Check.OUTSIDE, x -> x.hawk(51, 0));
        refused("hawk, outside ahead of not", Check.OUTSIDE, x -> x.hawk(0, -1));
        refused("hawk", Check.NOT, x -> x.hawk(0, 0));
        refused("hour, outside ahead of not", Check.OUTSIDE, x -> x.hour(0));
        refused("hour", Check.NOT, x -> x.hour(60));
        refused("drift, outside ahead of not", Check.OUTSIDE, x -> x.drift(61));
        refused("drift", Check.NOT, x -> x.drift(60));
        refused("undo", Check.NOT, x -> x.undo());
        refused("hat", Check.UNKNOWN, x -> x.hat(0, 101));
        refused("most", Check.UNKNOWN, x -> x.most(0, 101, 2));
        refused("kept", Check.UNKNOWN, x -> x.kept(0));
        refused("settled", Check.OUTSIDE, x -> x.settled(2));
        refused("toFloat", Check.UNKNOWN, x -> x.toFloat(0));
        refused("nets", Check.OUTSIDE, x -> x.nets(10000, 1));
        refused("nets", Check.OUTSIDE, x -> x.nets(0, 0));
        refused("calm", Check.OUTSIDE, x -> x.calm(61, 0));
        refused("watch", Check.OUTSIDE, x -> x.watch(100));
        refused("feel", Check.OUTSIDE, x -> x.feel(0, 51, true));
        refused("reach", Check.OUTSIDE, x -> x.reach(4));
        refused("write", Check.UNKNOWN, x -> x.write(0, 10000));
        refused("seed", Check.OUTSIDE, x -> x.seed(-1));
        refused("keep", Check.UNKNOWN, x -> x.keep(2));
        refused("goBack", Check.UNKNOWN, x -> x.goBack(2));
        refused("goBack", Check.NOT, x -> x.goBack(1));
    }

    private static void ofPersons() {
        refused("feed", Check.OUTSIDE, x -> x.feed(-1));
        refused("told", Check.OUTSIDE, x -> x.told(-1));
        refused("person, unknown ahead of outside", Check.UNKNOWN, x -> x.person(2, 10));
        refused("person", Check.OUTSIDE, x -> x.person(1, 10));
        refused("debt, unknown ahead of outside", Check.UNKNOWN, x -> x.debt(2, 3));
        refused("debt", Check.OUTSIDE, x -> x.debt(1, 3));
        refused("count, unknown ahead of outside", Check.UNKNOWN, x -> x.count(2, 0));
        refused("count, unknown ahead of not", Check.UNKNOWN, x -> x.count(-1, 999));
        refused("count, outside ahead of not", Check.OUTSIDE, x -> x.count(0, 1000));
        refused("count", Check.OUTSIDE, x -> x.count(0, 0));
        refused("count", Check.NOT, x -> x.count(0, 999));
        refused("pay, unknown ahead of outside", Check.UNKNOWN, x -> x.pay(2, 0, 0));
        refused("pay, unknown ahead of outside", Check.UNKNOWN, x -> x.pay(0, 2, 1000));
        refused("pay, one twice ahead of outside", Check.UNKNOWN, x -> x.pay(1, 1, 0));
        refused("pay, one twice ahead of not", Check.UNKNOWN, x -> x.pay(0, 0, 999));
        refused("pay, unknown ahead of not", Check.UNKNOWN, x -> x.pay(0, -1, 999));
        refused("pay, outside ahead of not", Check.OUTSIDE, x -> x.pay(0, 1, 1000));
        refused("pay", Check.OUTSIDE, x -> x.pay(0, 1, 0));
        refused("pay", Check.NOT, x -> x.pay(0, 1, 999));
        refused("strew, unknown ahead of outside", Check.UNKNOWN, x -> x.strew(2, 0));
        refused("strew", Check.OUTSIDE, x -> x.strew(0, 0));
        refused("strew", Check.OUTSIDE, x -> x.strew(0, 100));
        refused("net", Check.UNKNOWN, x -> x.net(2, true));
        refused("net", Check.UNKNOWN, x -> x.net(-1, false));
        refused("hawk", Check.OUTSIDE, x -> x.hawk(-1, 50));
        refused("hawk", Check.OUTSIDE, x -> x.hawk(50, 51));
        refused("hour", Check.OUTSIDE, x -> x.hour(61));
        refused("hour", Check.OUTSIDE, x -> x.hour(0));
        refused("drift", Check.OUTSIDE, x -> x.drift(0));
        refused("drift", Check.OUTSIDE, x -> x.drift(61));
        refused("hat, unknown ahead of outside", Check.UNKNOWN, x -> x.hat(2, 101));
        refused("hat", Check.OUTSIDE, x -> x.hat(0, 101));
        refused("most, unknown ahead of outside", Check.UNKNOWN, x -> x.most(2, -1, 2));
        refused("most", Check.OUTSIDE, x -> x.most(0, 101, 0));
        refused("most", Check.OUTSIDE, x -> x.most(0, 100, 2));
        refused("kept", Check.UNKNOWN, x -> x.kept(2));
        refused("settled", Check.OUTSIDE, x -> x.settled(-1));
        refused("toFloat", Check.UNKNOWN, x -> x.toFloat(2));
        refused("nets", Check.OUTSIDE, x -> x.nets(0, 25));
        refused("calm", Check.OUTSIDE, x -> x.calm(0, 101));
        refused("watch", Check.OUTSIDE, x -> x.watch(-1));
        refused("feel", Check.OUTSIDE, x -> x.feel(51, 0, false));
        refused("reach", Check.OUTSIDE, x -> x.reach(-1));
        refused("write, unknown ahead of outside", Check.UNKNOWN, x -> x.write(2, -1));
        refused("write", Check.OUTSIDE, x -> x.write(0, 10000));
        refused("seed", Check.OUTSIDE, x -> x.seed(Integer.MIN_VALUE));
        refused("keep", Check.UNKNOWN, x -> x.keep(-1));
        refused("goBack", Check.UNKNOWN, x -> x.goBack(-1));
        refused("goBack", Check.NOT, x -> x.goBack(1));
    }

    private static void fullOfLetters() {
        refused("feed", Check.FULL, x -> x.feed('x'));
        refused("feed, outside ahead of full", Check.OUTSIDE, x -> x.feed(256));
        refused("feed, outside ahead of full", Check.OUTSIDE, x -> x.feed(-1));
    }

    private static void fullOfSeen() {
        refused("watch", Check.FULL, x -> x.watch(0));
        refused("watch, outside ahead of full", Check.OUTSIDE, x -> x.watch(100));
        refused("feel", Check.FULL, x -> x.feel(0, 50, true));
        refused("feel, outside ahead of full", Check.OUTSIDE, x -> x.feel(51, 0, true));
        refused("feel, outside ahead of full", Check.OUTSIDE, x -> x.feel(0, 51, false));
    }

    private static void fullOfEntries() {
        refused("write", Check.FULL, x -> x.write(0, 0));
        refused("write, unknown ahead of full", Check.UNKNOWN, x -> x.write(2, 0));
        refused("write, unknown ahead of all", Check.UNKNOWN, x -> x.write(2, -1));
        refused("write, outside ahead of full", Check.OUTSIDE, x -> x.write(0, 10000));
    }

    private static void fullOfHours() {
        refused("hour", Check.FULL, x -> x.hour(1));
        refused("hour, outside ahead of full", Check.OUTSIDE, x -> x.hour(61));
        refused("drift", Check.FULL, x -> x.drift(60));
        refused("drift, outside ahead of full", Check.OUTSIDE, x -> x.drift(0));
    }

    private static void nothingToGive() {
        refused("count", Check.NOT, x -> x.count(0, 1));
        refused("count, outside ahead of not", Check.OUTSIDE, x -> x.count(0, 0));
        refused("pay", Check.NOT, x -> x.pay(0, 1, 1));
        refused("pay, outside ahead of not", Check.OUTSIDE, x -> x.pay(0, 1, 0));
        refused("pay, one twice ahead of not", Check.UNKNOWN, x -> x.pay(1, 1, 1));
        refused("goBack", Check.NOT, x -> x.goBack(0));
    }

    private static void nobodyThere() {
        refused("person", Check.UNKNOWN, x -> x.person(0, 0));
        refused("debt", Check.UNKNOWN, x -> x.debt(0, 0));
        refused("count", Check.UNKNOWN, x -> x.count(0, 1));
        refused("pay", Check.UNKNOWN, x -> x.pay(0, 1, 1));
        refused("strew", Check.UNKNOWN, x -> x.strew(0, 1));
        refused("net", Check.UNKNOWN, x -> x.net(0, true));
        refused("hat", Check.UNKNOWN, x -> x.hat(0, 0));
        refused("most", Check.UNKNOWN, x -> x.most(0, 0, 0));
        refused("kept", Check.UNKNOWN, x -> x.kept(0));
        refused("toFloat", Check.UNKNOWN, x -> x.toFloat(0));
        refused("write", Check.UNKNOWN, x -> x.write(0, 0));
        refused("undo", Check.NOT, x -> x.undo());
    }

    private static void farBelow() {
        Check.says("terms: -1000000001 and on");
        Check.due("UNKNOWN", SparrowChange.UNKNOWN, -1000000001);
        Check.due("OUTSIDE", SparrowChange.OUTSIDE, -1000000002);
        Check.due("NOT", SparrowChange.NOT, -1000000003);
        Check.due("FULL", SparrowChange.FULL, -1000000004);
        Check.due("NONE", SparrowChange.NONE, -1);
    }
}
