/** The edges of section 1 and of promises 1 to 4: what can stand in a text, its bounds, its faults and their letters. */
public final class TextEdgesTest {
    private static final String FIGURES = "0123456789";

    public static void main(String[] args) {
        everyLetterBehindEveryBeginning();
        everyUnfinishedText();
        boundsOfNumbers();
        lengthsOfNumbers();
        blanksAnywhere();
        personsOfDebts();
        asManyAsMayBe();
        oneTooMany();
        debtorLikeCreditor();
        leastOfSeveralFaults();
        firstOfSeveralLetters();
        emptyTexts();
        lettersOfText();
        longestText();
        textIsEmptyThen();
        faultOfLatest();
        Check.finish();
    }

    /** Feeds it to a new object: {what parish() answers, what fault() answers}. */
    private static int[] read(String text) {
        SparrowChange x = new SparrowChange();
        Check.feed(x, text);
        int answer = x.parish();
        return new int[] {answer, x.fault()};
    }

    private static void stands(String text, int persons) {
        int[] got = read(text);
        Check.due("parish of '" + text + "'", got[0], persons);
        Check.due("fault of '" + text + "'", got[1], Check.NONE);
    }

    private static void faulty(String text, int number, int at) {
        int[] got = read(text);
        Check.due("parish of '" + text + "'", got[0], -10 - number);
        Check.due("fault of '" + text + "'", got[1], at);
    }

    /** Each of the 256 letters behind a beginning: those that can stand, 't' where it is one again, all others. */
    private static void lettersBehind(String beginning, String canStand, boolean treeAgain) {
        for (int letter = 0; letter <= 255; letter++) {
            String text = beginning + (char) letter;
            int[] got = read(text);
            if (letter == 't' && treeAgain) {
                faulty(text, 3, beginning.length());
            } else if (canStand.indexOf(letter) < 0) {
                faulty(text, 1, beginning.length());
                faulty(text + " 1 1;", 1, beginning.length());
            } else if (got[0] == -11 && got[1] == beginning.length()) {
                Check.fail("letter " + letter + " behind '" + beginning + "' is a fault, but can stand");
            }
        }
    }

    private static void everyLetterBehindEveryBeginning() {
        Check.says("section 1, fault 1: it cannot stand there (a letter that is no word, another word first than 't')");
        String number = FIGURES + " ";
        lettersBehind("", " t", false);
        lettersBehind("   ", " t", false);
        lettersBehind("t", number, false);
        lettersBehind("t ", number, false);
        lettersBehind("t1", number, false);
        lettersBehind("t1 ", number, false);
        lettersBehind("t1 2", number + ";", false);
        lettersBehind("t1 2 ", " ;", false);
        lettersBehind("t1 2;", " pd", true);
        lettersBehind("t1 2; ", " pd", true);
        String tree = "t1 2;";
        lettersBehind(tree + "p", number, false);
        lettersBehind(tree + "p ", number, false);
        lettersBehind(tree + "p0", number, false);
        lettersBehind(tree + "p0 ", number, false);
        lettersBehind(tree + "p0 1", number, false);
        lettersBehind(tree + "p0 1 ", number, false);
        lettersBehind(tree + "p0 1 2", number + ";", false);
        lettersBehind(tree + "p0 1 2 ", " ;", false);
        lettersBehind(tree + "p0 1 2;", " pd", true);
        String two = tree + "p0 1 2;p0 1 2;";
        lettersBehind(two + "d", number, false);
        lettersBehind(two + "d ", number, false);
        lettersBehind(two + "d0", number, false);
        lettersBehind(two + "d0 ", number, false);
        lettersBehind(two + "d0 1", number, false);
        lettersBehind(two + "d0 1 ", number, false);
        lettersBehind(two + "d0 1 2", number + ";", false);
        lettersBehind(two + "d0 1 2 ", " ;", false);
        lettersBehind(two + "d0 1 2;", " pd", true);
    }

    private static void everyUnfinishedText() {
        Check.says("section 1: faults, the end at the text's length");
        String whole = " t12 6 ; p0 20 5;p1 30 9 ;d0 1 18; d 1 0 7;";
        int persons = 0;
        for (int length = 1; length <= whole.length(); length++) {
            String part = whole.substring(0, length);
            String told = part.replace(" ", "");
            boolean complete = told.isEmpty() || told.endsWith(";");
            if (complete) {
                persons = (int) part.chars().filter(c -> c == 'p').count();
                stands(part, persons);
            } else {
                faulty(part, 1, length);
                faulty(part + "   ", 1, length + 3);
            }
        }
        Check.due("persons of the whole text", persons, 2);
    }

    /** A text with the number in the place of #, from the least to the greatest that may stand there. */
    private static void bounds(String text, int least, int greatest, int persons) {
        int at = text.indexOf('#');
        for (int value : new int[] {least, least + 1, (least + greatest) / 2, greatest - 1, greatest}) {
            stands(text.replace("#", "" + value), persons);
        }
        if (least > 0) {
            faulty(text.replace("#", "" + (least - 1)), 2, at);
            faulty(text.replace("#", "00" + (least - 1)), 2, at);
        }
        for (int value : new int[] {greatest + 1, greatest + 2, 10 * greatest + 10, 999, 1000, 9999}) {
            if (value > greatest) {
                faulty(text.replace("#", "" + value), 2, at);
            }
        }
        faulty(text.replace("#", "-1"), 1, at);
        // the numbers behind it take the places ahead of them, so that the last one is not there
        faulty(text.replace("#", ""), 1, text.length() - 2);
    }

    private static void boundsOfNumbers() {
        Check.says("section 1: the tree holds 0 .. 999 birds");
        bounds("t# 1;", 0, 999, 0);
        Check.says("section 1: dusk is each 1 .. 24 hours");
        bounds("t0 #;", 1, 24, 0);
        Check.says("section 1: kind 0 .. 4");
        bounds("t0 1;p# 0 0;", 0, 4, 1);
        Check.says("section 1: a person has 0 .. 99 birds");
        bounds("t0 1;p0 # 0;", 0, 99, 1);
        Check.says("section 1: door 0 .. 50");
        bounds("t0 1;p0 0 #;", 0, 50, 1);
        Check.says("section 1: a person owes 1 .. 99 birds");
        bounds("t0 1;p0 0 0;p0 0 0;d0 1 #;", 1, 99, 2);
        SparrowChange least = Check.of("t0 1;p0 0 0;p0 0 0;d0 1 1;");
        Check.due("D", least.told(0), 1);
        Check.due("tree", least.told(5), 0);
        Check.due("birds", least.person(0, 1), 0);
        Check.due("door", least.person(0, 2), 0);
        Check.due("owed", least.debt(0, 2), 1);
        SparrowChange most = Check.of("t999 24;p4 99 50;p4 99 50;d1 0 99;");
        Check.due("D", most.told(0), 24);
        Check.due("tree", most.told(5), 999);
        Check.due("kind", most.person(1, 0), 4);
        Check.due("birds", most.person(1, 1), 99);
        Check.due("door", most.person(1, 2), 50);
        Check.due("owed", most.debt(0, 2), 99);
    }

    private static void lengthsOfNumbers() {
        Check.says("section 1: numbers have one to three figures; fault 2: a number of four figures or more");
        stands("t5 1;", 0);
        stands("t05 01;", 0);
        stands("t005 001;", 0);
        Check.due("leading noughts", Check.of("t007 024;").told(0), 24);
        faulty("t0005 1;", 2, 1);
        faulty("t5 0001;", 2, 3);
        faulty("t0 1;p0000 0 0;", 2, 6);
        faulty("t0 1;p0 0000 0;", 2, 8);
        faulty("t0 1;p0 0 0000;", 2, 10);
        faulty("t0 1;p0 0 0;p0 0 0;d0000 1 1;", 2, 20);
        faulty("t0 1;p0 0 0;p0 0 0;d0 0001 1;", 2, 22);
        faulty("t0 1;p0 0 0;p0 0 0;d0 1 0001;", 2, 24);
        for (int figures = 4; figures <= 230; figures += 13) {
            faulty("t" + "0".repeat(figures) + " 1;", 2, 1);
            faulty("t" + "9".repeat(figures), 2, 1);
        }
        // two to the 32 and 5 more: a number that wraps around would be 5
        faulty("t4294967301 1;", 2, 1);
        faulty("t18446744073709551621 1;", 2, 1);
    }

    private static void blanksAnywhere() {
        Check.says("section 1: blanks may stand anywhere but within numbers; two numbers side by side need one");
        stands("   t   1   2   ;   p   0   3   4   ;   p 1 1 1;   d   1   0   9   ;   ", 2);
        SparrowChange x = Check.of("  t  12  7 ;  p  3  45  6 ;p0 0 0 ;d 1 0 78 ;");
        Check.due("D", x.told(0), 7);
        Check.due("tree", x.told(5), 12);
        Check.due("kind", x.person(0, 0), 3);
        Check.due("birds", x.person(0, 1), 45);
        Check.due("door", x.person(0, 2), 6);
        Check.due("owed", x.debt(0, 2), 78);
        faulty("t12;", 1, 3);
        faulty("t1 2 3;", 1, 5);
        faulty("t1 0 6;", 2, 3);
        faulty("t0 1;p01 2;", 1, 10);
        faulty("t0 1;p012;", 2, 6);
        faulty("t0 1;p0 1 2 3;", 1, 12);
        faulty("t0 1;p0 0 0;p0 0 0;d01 0;", 1, 24);
        faulty("t0 1;p0 0 0;p0 0 0;d0 1 1 1;", 1, 26);
    }

    private static void personsOfDebts() {
        Check.says("section 1, fault 2: a person that there is not (at its first); both told ahead");
        faulty("t0 1;d0 0 1;", 2, 6);
        faulty("t0 1;d0 1 1;", 2, 6);
        StringBuilder persons = new StringBuilder("t0 1;");
        for (int there = 1; there <= 7; there++) {
            persons.append("p0 0 0;");
            int at = persons.length() + 1;
            faulty(persons + "d" + there + " 0 1;", 2, at);
            faulty(persons + "d0 " + there + " 1;", 2, at + 2);
            faulty(persons + "d  0   " + there + " 1;", 2, at + 6);
            faulty(persons + "d999 0 1;", 2, at);
            faulty(persons + "d0 999 1;", 2, at + 2);
            if (there > 1) {
                stands(persons + "d" + (there - 1) + " 0 1;", there);
                stands(persons + "d0 " + (there - 1) + " 1;", there);
                stands(persons + "d00" + (there - 1) + " 000 1;", there);
            }
        }
        faulty("t0 1;p0 0 0;d0 1 1;p0 0 0;", 2, 15);
        faulty("t0 1;p0 0 0;d1 0 1;p0 0 0;", 2, 13);
        stands("t0 1;p0 0 0;p0 0 0;d0 1 1;p0 0 0;d2 1 1;", 3);
    }

    private static void asManyAsMayBe() {
        Check.says("section 1: 7 persons at most; 9 debts at most");
        SparrowChange x = Check.of("t0 1;" + "p2 1 1;".repeat(7) + "d6 0 9;".repeat(9));
        Check.due("persons", x.told(1), 7);
        Check.due("debts", x.told(2), 9);
        Check.due("the seventh", x.person(6, 0), 2);
        Check.due("the ninth", x.debt(8, 0), 6);
        Check.due("an eighth", x.person(7, 0), Check.UNKNOWN);
        Check.due("a tenth", x.debt(9, 0), Check.UNKNOWN);
        Check.due("all owed", x.told(12), 81);
    }

    private static void oneTooMany() {
        Check.says("section 1, fault 3: 't' again, an eighth 'p', a tenth 'd' (at it)");
        faulty("t0 1;t", 3, 5);
        faulty("t0 1;  t0 1;", 3, 7);
        faulty("t0 1;p0 0 0;t0 1;", 3, 12);
        faulty("t0 1;p0 0 0;p0 0 0;d0 1 1;tx", 3, 26);
        String seven = "t0 1;" + "p0 0 0;".repeat(7);
        stands(seven, 7);
        faulty(seven + "p", 3, 54);
        faulty(seven + "p0 0 0;", 3, 54);
        faulty(seven + "d0 1 1; p9999", 3, 62);
        String nine = "t0 1;p0 0 0;p0 0 0;" + "d0 1 1;".repeat(9);
        stands(nine, 2);
        faulty(nine + "d", 3, 82);
        faulty(nine + "d0 1 1;", 3, 82);
        faulty(nine + "p0 0 0;d9 9 9;", 3, 89);
        stands(nine + "p0 0 0;".repeat(5), 7);
        stands(seven + "d0 1 1;".repeat(9), 7);
    }

    private static void debtorLikeCreditor() {
        Check.says("section 1, fault 4: a B like its A (at the B)");
        String seven = "t0 1;" + "p0 0 0;".repeat(7);
        for (int p = 0; p < 7; p++) {
            faulty(seven + "d" + p + " " + p + " 1;", 4, 57);
            faulty(seven + "d" + p + "    " + p, 4, 60);
            faulty(seven + "d00" + p + " 0" + p + " 1;", 4, 59);
        }
        stands(seven + "d0 6 1;d6 0 1;d0 6 1;", 7);
    }

    private static void leastOfSeveralFaults() {
        Check.says("section 1: at the first letter that has one, of these the least");
        faulty("t1 t", 1, 3);
        faulty("t1 1t", 1, 4);
        faulty("t0 1;" + "p0 0 0;".repeat(7) + "dp", 1, 55);
        faulty("t0 1;p0 0 0;p0 0 0;" + "d0 1 1;".repeat(8) + "dd", 1, 76);
        faulty("t0 1 1000;", 1, 5);
        faulty("t0 1;9999", 1, 5);
        faulty("t0 1;p0 0 0;d0 0000 1;", 2, 15);
        faulty("t0 1;p0 0 0;d0 000000000 1;", 2, 15);
        faulty("t0 1;d0 0 1;", 2, 6);
        faulty("t0 1;p0 0 0;d1 1 1;", 2, 13);
    }

    private static void firstOfSeveralLetters() {
        Check.says("section 1: faults, at the first letter that has one");
        faulty("t1000 0;", 2, 1);
        faulty("t1000x", 2, 1);
        faulty("t1x00 1;", 1, 2);
        faulty("t1 25 x;", 2, 3);
        faulty("t1 1;p5 100 51;", 2, 6);
        faulty("t1 1;p0 0 0;d0 0 100;", 4, 15);
        faulty("t1 1;p0 0 0;d0 0 x", 4, 15);
        faulty("t1 1;p0 0 0;d0 1 100;t", 2, 15);
        faulty("xt", 1, 0);
        faulty("t1 1;t999 99;x", 3, 5);
    }

    private static void emptyTexts() {
        Check.says("section 1: an empty text (or one of blanks alone): no parish");
        for (int blanks : new int[] {0, 1, 2, 239, 240}) {
            stands(" ".repeat(blanks), 0);
            SparrowChange x = Check.of("t9 3;p2 5 7;p0 4 0;d0 1 3;");
            x.strew(0, 3);
            Check.feed(x, " ".repeat(blanks));
            Check.due("parish of " + blanks + " blanks", x.parish(), 0);
            Check.due("fault", x.fault(), Check.NONE);
            for (int what = 0; what <= 17; what++) {
                Check.due("told " + what, x.told(what), what == 8 || what == 10 ? Check.NONE : 0);
            }
            Check.due("a person", x.person(0, 0), Check.UNKNOWN);
            Check.due("a debt", x.debt(0, 0), Check.UNKNOWN);
            Check.due("hour", x.hour(1), Check.NOT);
            Check.due("hawk", x.hawk(0, 0), Check.NOT);
            Check.due("nets", x.nets(0, 1), Check.NONE);
            Check.due("settled", x.settled(0), 0);
        }
        Check.says("promise 1: a new object has no parish");
        SparrowChange none = new SparrowChange();
        Check.due("where the ringed one is", none.told(8), Check.NONE);
        Check.due("fault", none.fault(), Check.NONE);
        Check.due("a tree without persons is a parish", Check.of("t0 1;").told(8), -2);
    }

    private static void lettersOfText() {
        Check.says("promise 2: one letter (a number 0 .. 255); OUTSIDE");
        SparrowChange x = new SparrowChange();
        int[] outside = {-1, 256, -2, 257, 256 + 't', 't' - 256, 65536 + 't', Integer.MIN_VALUE, Integer.MAX_VALUE};
        for (int letter : outside) {
            Check.due("feed " + letter, x.feed(letter), Check.OUTSIDE);
            Check.due("letters", x.told(3), 0);
        }
        Check.due("feed 0", x.feed(0), 1);
        Check.due("feed 255", x.feed(255), 2);
        Check.due("letters", x.told(3), 2);
    }

    private static void longestText() {
        Check.says("promise 2: FULL (240)");
        String text = "t9 3;p0 4 5;";
        SparrowChange x = new SparrowChange();
        Check.feed(x, text);
        for (int i = text.length() + 1; i <= 240; i++) {
            Check.due("feed nr " + i, x.feed(' '), i);
        }
        Check.due("the 241st", x.feed('x'), Check.FULL);
        Check.due("the 241st again", x.feed(' '), Check.FULL);
        Check.due("one that is none", x.feed(256), Check.OUTSIDE);
        Check.due("letters", x.told(3), 240);
        Check.due("what was refused is not in it", x.parish(), 1);
        Check.due("letters then", x.told(3), 0);
        Check.due("feed again", x.feed(' '), 1);
        SparrowChange cut = new SparrowChange();
        Check.feed(cut, " ".repeat(239) + "t");
        Check.due("a word as the last letter", cut.parish(), -11);
        Check.due("its fault is at the end", cut.fault(), 240);
        Check.feed(cut, " ".repeat(239) + "x");
        Check.due("no word as the last letter", cut.parish(), -11);
        Check.due("its fault is at the last", cut.fault(), 239);
        Check.feed(cut, " ".repeat(235) + "t1 1;");
        Check.due("a clause that ends at the end", cut.parish(), 0);
        Check.due("it has none", cut.fault(), Check.NONE);
    }

    private static void textIsEmptyThen() {
        Check.says("promise 3: the text (it is empty then, with a fault, too)");
        SparrowChange x = new SparrowChange();
        Check.feed(x, "t9 3;p0 4 5;");
        Check.due("letters", x.told(3), 12);
        Check.due("a good text", x.parish(), 1);
        Check.due("letters then", x.told(3), 0);
        Check.feed(x, "t9 3;p0 4 5;x");
        Check.due("a fault", x.parish(), -11);
        Check.due("letters then", x.told(3), 0);
        Check.feed(x, "t8 2;p0 4 5;p0 4 5;");
        Check.due("nothing of the old text is left", x.parish(), 2);
        Check.feed(x, "p0 4 5;");
        Check.due("a text does not go on from the parish", x.parish(), -11);
        Check.due("at its first", x.fault(), 0);
        Check.due("the parish stays", x.told(1), 2);
    }

    private static void faultOfLatest() {
        Check.says("promise 4: the letter of the fault of the latest parish(); NONE");
        SparrowChange x = new SparrowChange();
        Check.due("no parish() yet", x.fault(), Check.NONE);
        Check.feed(x, "x");
        Check.due("fed only", x.fault(), Check.NONE);
        Check.due("fault 1", x.parish(), -11);
        Check.due("its letter", x.fault(), 0);
        Check.feed(x, "t1 25;");
        Check.due("that of the latest parish() yet", x.fault(), 0);
        Check.due("fault 2", x.parish(), -12);
        Check.due("its letter", x.fault(), 3);
        Check.feed(x, "t1 2; t");
        Check.due("fault 3", x.parish(), -13);
        Check.due("its letter", x.fault(), 6);
        Check.feed(x, "t1 2;p0 0 0;d0 0 1;");
        Check.due("fault 4", x.parish(), -14);
        Check.due("its letter", x.fault(), 15);
        Check.feed(x, "t1 2;");
        Check.due("no fault", x.parish(), 0);
        Check.due("none", x.fault(), Check.NONE);
        Check.feed(x, "t");
        Check.due("fault 1", x.parish(), -11);
        Check.due("empty", x.parish(), 0);
        Check.due("none", x.fault(), Check.NONE);
    }
}
