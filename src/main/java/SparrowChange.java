/** A parish whose small money is sparrows; the document's promises 1 to 32. */
public final class SparrowChange {
    public static final int NONE = -1, UNKNOWN = -1000000001, OUTSIDE = -1000000002, NOT = -1000000003, FULL = -1000000004;

    private static final int TREE = -2;
    private static final int BILLION = 1000000000;
    private static final int BIRDS_TO_THE_PENNY = 9;
    private static final int MOST_LETTERS = 240;
    private static final int MOST_FIGURES = 3;
    private static final int MOST_PERSONS = 7;
    private static final int MOST_DEBTS = 9;
    private static final int MOST_CRUMBS = 99;
    private static final int MOST_PLACES = 20;
    private static final int MOST_UNDONE = 16;
    private static final int MOST_WATCHED = 6;
    private static final int MOST_FELT = 6;
    private static final int MOST_ENTRIES = 15;
    private static final int MOST_FLOAT = 999;
    private static final int LAST_DOOR = 50;
    private static final int LAST_KIND = 4;
    private static final int LAST_DUSK = 24;
    private static final int LAST_HOUR = 9000;
    private static final int IMAGES = 2;

    private static final int SHOP = 1;
    private static final int MISER = 2;
    private static final int BRIDE = 3;
    private static final int TENOR = 4;

    private static final int CANNOT_STAND = 1;
    private static final int BAD_NUMBER = 2;
    private static final int ONE_TOO_MANY = 3;
    private static final int OWES_ITSELF = 4;

    private final Text text = new Text();
    private Parish here = new Parish();
    private Parish draft = new Parish();
    private final Flock now = new Flock();
    private final Flock trial = new Flock();
    private final Past past = new Past();
    private final Flock[] images = new Flock[IMAGES];
    private final int[] imageSeeds = new int[IMAGES];
    private final boolean[] imageThere = new boolean[IMAGES];
    private final Settling settling = new Settling();
    private final Seen seen = new Seen();
    private final int[] owedOnward = new int[MOST_PERSONS];
    private int theSeed = 0;

    public SparrowChange() {
        for (int i = 0; i < images.length; i++) {
            images[i] = new Flock();
        }
    }

    // ---- the parish

    public int feed(int letter) {
        if (isOutside(letter, 0, 255)) {
            return OUTSIDE;
        }
        if (text.length >= MOST_LETTERS) {
            return FULL;
        }
        return text.append(letter);
    }

    public int parish() {
        int faultNumber = text.readInto(draft);
        if (faultNumber != 0) {
            return -10 - faultNumber;
        }
        Parish before = here;
        here = draft;
        draft = before;
        now.begin(here);
        past.forget();
        seen.forget();
        for (int i = 0; i < imageThere.length; i++) {
            imageThere[i] = false;
        }
        return here.persons;
    }

    public int fault() {
        return text.faultAt;
    }

    public int told(int what) {
        switch (what) {
            case 0: return here.dusk;
            case 1: return here.persons;
            case 2: return here.debts;
            case 3: return text.length;
            case 4: return now.hours;
            case 5: return now.tree;
            case 6: return now.inAllHats();
            case 7: return now.netted;
            case 8: return now.ringed;
            case 9: return now.placesKnown();
            case 10: return richest();
            case 11: return rings();
            case 12: return owedInAll();
            case 13: return suspects();
            case 14: return seen.watches;
            case 15: return seen.feelings;
            case 16: return seen.entries;
            case 17: return past.size;
            default: return OUTSIDE;
        }
    }

    public int person(int p, int what) {
        if (!here.hasPerson(p)) {
            return UNKNOWN;
        }
        switch (what) {
            case 0: return here.kind[p];
            case 1: return now.birds[p];
            case 2: return here.door[p];
            case 3: return now.crumbs[p];
            case 4: return now.hasNet(p) ? 1 : 0;
            case 5: return now.birds[p] / BIRDS_TO_THE_PENNY;
            case 6: return now.birds[p] % BIRDS_TO_THE_PENNY;
            case 7: return owedBy(p);
            case 8: return owedTo(p);
            case 9: return now.loss(here, p, now.crumbs[p] > 0);
            default: return OUTSIDE;
        }
    }

    public int debt(int d, int what) {
        if (!here.hasDebt(d)) {
            return UNKNOWN;
        }
        switch (what) {
            case 0: return here.debtor[d];
            case 1: return here.creditor[d];
            case 2: return now.owed[d];
            default: return OUTSIDE;
        }
    }

    public int trace(int i) {
        return now.placeBack(i);
    }

    // ---- what is done

    public int count(int p, int n) {
        if (!here.hasPerson(p)) {
            return UNKNOWN;
        }
        if (isOutside(n, 1, 999)) {
            return OUTSIDE;
        }
        if (now.tree < n) {
            return NOT;
        }
        past.remember(now);
        now.move(TREE, p, n);
        return now.birds[p];
    }

    public int pay(int p, int q, int n) {
        if (!here.hasPerson(p) || !here.hasPerson(q) || p == q) {
            return UNKNOWN;
        }
        if (isOutside(n, 1, 999)) {
            return OUTSIDE;
        }
        if (now.birds[p] < n) {
            return NOT;
        }
        past.remember(now);
        now.move(p, q, n);
        return now.lessenDebts(here, p, q, n);
    }

    public int strew(int p, int n) {
        if (!here.hasPerson(p)) {
            return UNKNOWN;
        }
        if (isOutside(n, 1, MOST_CRUMBS)) {
            return OUTSIDE;
        }
        past.remember(now);
        now.addCrumbs(p, n);
        return now.crumbs[p];
    }

    public int net(int p, boolean is) {
        if (!here.hasPerson(p)) {
            return UNKNOWN;
        }
        int had = now.hasNet(p) ? 1 : 0;
        past.remember(now);
        int bit = 1 << p;
        now.netted = is ? now.netted | bit : now.netted & ~bit;
        return had;
    }

    public int hawk(int x, int n) {
        if (isOutside(x, 0, LAST_DOOR) || isOutside(n, 0, LAST_DOOR)) {
            return OUTSIDE;
        }
        if (!here.stands) {
            return NOT;
        }
        past.remember(now);
        return now.scare(here, x, n);
    }

    public int hour(int n) {
        int refusal = refusalOfHours(n);
        if (refusal != 0) {
            return refusal;
        }
        past.remember(now);
        for (int i = 0; i < n; i++) {
            now.passHour(here);
        }
        return now.tree;
    }

    public int drift(int n) {
        int refusal = refusalOfHours(n);
        if (refusal != 0) {
            return refusal;
        }
        past.remember(now);
        for (int i = 0; i < n; i++) {
            if (here.persons > 0) {
                doByDraw();
            }
            now.passHour(here);
        }
        return now.tree;
    }

    public int undo() {
        if (past.size == 0) {
            return NOT;
        }
        past.recallInto(now);
        return past.size;
    }

    // ---- tried

    public int hat(int p, int n) {
        if (!here.hasPerson(p)) {
            return UNKNOWN;
        }
        if (isOutside(n, 0, 100)) {
            return OUTSIDE;
        }
        trial.copyFrom(now);
        for (int i = 0; i < n; i++) {
            trial.passHour(here);
        }
        return trial.birds[p];
    }

    public int most(int p, int n, int what) {
        if (!here.hasPerson(p)) {
            return UNKNOWN;
        }
        if (isOutside(n, 0, 100) || isOutside(what, 0, 1)) {
            return OUTSIDE;
        }
        trial.copyFrom(now);
        int best = trial.birds[p];
        int behind = 0;
        for (int i = 1; i <= n; i++) {
            trial.passHour(here);
            if (trial.birds[p] > best) {
                best = trial.birds[p];
                behind = i;
            }
        }
        return what == 0 ? behind : best;
    }

    public int kept(int p) {
        if (!here.hasPerson(p)) {
            return UNKNOWN;
        }
        trial.copyFrom(now);
        trial.flyForAnHour(here);
        for (int i = 1; i < LAST_DUSK && !trial.isDusk(here); i++) {
            trial.flyForAnHour(here);
        }
        return trial.birds[p];
    }

    public int settled(int what) {
        if (isOutside(what, 0, 1)) {
            return OUTSIDE;
        }
        int row = settling.longestRow(here, now);
        return what == 0 ? figuresOf(row) : row;
    }

    public int toFloat(int p) {
        if (!here.hasPerson(p)) {
            return UNKNOWN;
        }
        return settling.leastFloat(here, now, p);
    }

    public int nets(int n, int h) {
        if (isOutside(n, 0, 9999) || isOutside(h, 1, LAST_DUSK)) {
            return OUTSIDE;
        }
        if (!here.stands) {
            return NONE;
        }
        int best = NONE;
        int fewest = MOST_PERSONS + 1;
        for (int set = 0; set < (1 << here.persons); set++) {
            int size = Integer.bitCount(set);
            boolean allNew = (set & now.netted) == 0;
            if (allNew && size < fewest && birdsWithNets(set, h) >= n) {
                best = set;
                fewest = size;
            }
        }
        return best;
    }

    public int calm(int n, int q) {
        if (isOutside(n, 0, 60) || isOutside(q, 0, 100)) {
            return OUTSIDE;
        }
        long odds = BILLION;
        for (int i = 0; i < n; i++) {
            odds = odds * q / 100;
        }
        return (int) odds;
    }

    // ---- what is seen

    public int watch(int n) {
        if (isOutside(n, 0, 99)) {
            return OUTSIDE;
        }
        if (seen.watches >= MOST_WATCHED) {
            return FULL;
        }
        return seen.addWatched(n);
    }

    public int feel(int x, int y, boolean is) {
        if (isOutside(x, 0, LAST_DOOR) || isOutside(y, 0, LAST_DOOR)) {
            return OUTSIDE;
        }
        if (seen.feelings >= MOST_FELT) {
            return FULL;
        }
        return seen.addFelt(Math.abs(x - y), is);
    }

    public int reach(int what) {
        switch (what) {
            case 0: return seen.reachesBelow(LAST_DOOR + 1);
            case 1: return seen.leastReach();
            case 2: return seen.greatestReach();
            case 3: return seen.bestDoorToPart();
            default: return OUTSIDE;
        }
    }

    public int write(int p, int birds) {
        if (!here.hasPerson(p)) {
            return UNKNOWN;
        }
        if (isOutside(birds, 0, 9999)) {
            return OUTSIDE;
        }
        if (seen.entries >= MOST_ENTRIES) {
            return FULL;
        }
        return seen.addEntry(p, birds);
    }

    public int tear() {
        int all = seen.watches + seen.feelings + seen.entries;
        seen.forget();
        return all;
    }

    public int judge() {
        return seen.firstWrong(now);
    }

    // ---- draws, images

    public int seed(int v) {
        if (v < 0) {
            return OUTSIDE;
        }
        int before = theSeed;
        theSeed = v;
        return before;
    }

    public int keep(int i) {
        if (isOutside(i, 0, IMAGES - 1)) {
            return UNKNOWN;
        }
        images[i].copyFrom(now);
        imageSeeds[i] = theSeed;
        imageThere[i] = true;
        past.forget();
        return 1;
    }

    public int goBack(int i) {
        if (isOutside(i, 0, IMAGES - 1)) {
            return UNKNOWN;
        }
        if (!imageThere[i]) {
            return NOT;
        }
        now.copyFrom(images[i]);
        theSeed = imageSeeds[i];
        past.forget();
        return 1;
    }

    // ---- what the calls above have in common

    private static boolean isOutside(int number, int least, int greatest) {
        return number < least || number > greatest;
    }

    private static boolean has(int set, int k) {
        return ((set >> k) & 1) == 1;
    }

    private static int figuresOf(int number) {
        int figures = 0;
        for (int rest = number; rest > 0; rest /= 10) {
            figures++;
        }
        return figures;
    }

    private int refusalOfHours(int n) {
        if (isOutside(n, 1, 60)) {
            return OUTSIDE;
        }
        if (!here.stands) {
            return NOT;
        }
        return now.hours > LAST_HOUR ? FULL : 0;
    }

    private int drawOf(int n) {
        // 32 bits that wrap around leave the same low 31 bits as the whole product
        theSeed = (theSeed * 1103515245 + 12345) & 0x7FFFFFFF;
        return n > 0 ? (theSeed / 65536) % n : 0;
    }

    private void doByDraw() {
        int deed = drawOf(5);
        if (deed == 0) {
            int p = drawOf(here.persons);
            now.move(TREE, p, Math.min(BIRDS_TO_THE_PENNY, now.tree));
        } else if (deed == 1) {
            int p = drawOf(here.persons);
            now.addCrumbs(p, drawOf(20));
        } else if (deed == 2) {
            int x = drawOf(LAST_DOOR + 1);
            now.scare(here, x, drawOf(10));
        }
    }

    private int birdsWithNets(int set, int h) {
        trial.copyFrom(now);
        trial.netted |= set;
        for (int i = 0; i < h; i++) {
            trial.passHour(here);
        }
        return trial.inAllHats();
    }

    private int richest() {
        int rich = NONE;
        int birds = -1;
        for (int p = 0; p < here.persons; p++) {
            if (now.birds[p] > birds) {
                birds = now.birds[p];
                rich = p;
            }
        }
        return rich;
    }

    private int rings() {
        for (int p = 0; p < here.persons; p++) {
            owedOnward[p] = creditorsOf(p);
        }
        for (int over = 0; over < here.persons; over++) {
            for (int p = 0; p < here.persons; p++) {
                if (has(owedOnward[p], over)) {
                    owedOnward[p] |= owedOnward[over];
                }
            }
        }
        int set = 0;
        for (int p = 0; p < here.persons; p++) {
            set |= owedOnward[p] & (1 << p);
        }
        return set;
    }

    private int creditorsOf(int p) {
        int set = 0;
        for (int d = 0; d < here.debts; d++) {
            if (here.debtor[d] == p && now.owed[d] > 0) {
                set |= 1 << here.creditor[d];
            }
        }
        return set;
    }

    private int owedBy(int p) {
        int sum = 0;
        for (int d = 0; d < here.debts; d++) {
            sum += here.debtor[d] == p ? now.owed[d] : 0;
        }
        return sum;
    }

    private int owedTo(int p) {
        int sum = 0;
        for (int d = 0; d < here.debts; d++) {
            sum += here.creditor[d] == p ? now.owed[d] : 0;
        }
        return sum;
    }

    private int owedInAll() {
        int sum = 0;
        for (int d = 0; d < here.debts; d++) {
            sum += now.owed[d];
        }
        return sum;
    }

    private int suspects() {
        int set = 0;
        for (int p = 0; p < here.persons; p++) {
            if (seen.allWatchedAre(now.drawnBy(here, p))) {
                set |= 1 << p;
            }
        }
        return set;
    }

    /** What a text told of a parish; it stays as it is until another text is read. */
    private static final class Parish {
        boolean stands = false;
        int dusk = 0;
        int tree = 0;
        int persons = 0;
        int debts = 0;
        final int[] kind = new int[MOST_PERSONS];
        final int[] birds = new int[MOST_PERSONS];
        final int[] door = new int[MOST_PERSONS];
        final int[] debtor = new int[MOST_DEBTS];
        final int[] creditor = new int[MOST_DEBTS];
        final int[] owed = new int[MOST_DEBTS];

        void clear() {
            stands = false;
            dusk = 0;
            tree = 0;
            persons = 0;
            debts = 0;
        }

        void setTree(int birdsInIt, int hoursToDusk) {
            stands = true;
            tree = birdsInIt;
            dusk = hoursToDusk;
        }

        void addPerson(int itsKind, int itsBirds, int itsDoor) {
            if (persons < MOST_PERSONS) {
                kind[persons] = itsKind;
                birds[persons] = itsBirds;
                door[persons] = itsDoor;
                persons++;
            }
        }

        void addDebt(int from, int to, int birdsOwed) {
            if (debts < MOST_DEBTS) {
                debtor[debts] = from;
                creditor[debts] = to;
                owed[debts] = birdsOwed;
                debts++;
            }
        }

        boolean hasPerson(int p) {
            return p >= 0 && p < persons;
        }

        boolean hasDebt(int d) {
            return d >= 0 && d < debts;
        }
    }

    /** The text as it is fed, and how it is read. */
    private static final class Text {
        final int[] letters = new int[MOST_LETTERS];
        int length = 0;
        int faultAt = NONE;
        private int faultNumber = 0;
        private int at = 0;
        private int numberAt = 0;

        int append(int letter) {
            if (length < MOST_LETTERS) {
                letters[length] = letter;
                length++;
            }
            return length;
        }

        /** Reads all of it and empties it; answers the number of its fault, 0 if it has none. */
        int readInto(Parish draft) {
            draft.clear();
            faultNumber = 0;
            faultAt = NONE;
            at = 0;
            skipBlanks();
            for (int i = 0; i < MOST_LETTERS && faultNumber == 0 && at < length; i++) {
                readClause(draft);
                skipBlanks();
            }
            length = 0;
            return faultNumber;
        }

        private void readClause(Parish draft) {
            int word = letters[at];
            int wrong = faultOfWord(draft, word);
            if (wrong != 0) {
                noteFault(wrong, at);
                return;
            }
            at++;
            if (word == 't') {
                readTree(draft);
            } else if (word == 'p') {
                readPerson(draft);
            } else {
                readDebt(draft);
            }
        }

        private static int faultOfWord(Parish draft, int word) {
            switch (word) {
                case 't': return draft.stands ? ONE_TOO_MANY : 0;
                case 'p': return !draft.stands ? CANNOT_STAND : draft.persons >= MOST_PERSONS ? ONE_TOO_MANY : 0;
                case 'd': return !draft.stands ? CANNOT_STAND : draft.debts >= MOST_DEBTS ? ONE_TOO_MANY : 0;
                default: return CANNOT_STAND;
            }
        }

        private void readTree(Parish draft) {
            int n = readNumber(0, 999);
            int d = readNumber(1, LAST_DUSK);
            readEnd();
            if (faultNumber == 0) {
                draft.setTree(n, d);
            }
        }

        private void readPerson(Parish draft) {
            int k = readNumber(0, LAST_KIND);
            int n = readNumber(0, 99);
            int x = readNumber(0, LAST_DOOR);
            readEnd();
            if (faultNumber == 0) {
                draft.addPerson(k, n, x);
            }
        }

        private void readDebt(Parish draft) {
            int a = readNumber(0, draft.persons - 1);
            int b = readNumber(0, draft.persons - 1);
            if (a == b) {
                noteFault(OWES_ITSELF, numberAt);
            }
            int n = readNumber(1, 99);
            readEnd();
            if (faultNumber == 0) {
                draft.addDebt(a, b, n);
            }
        }

        private int readNumber(int least, int greatest) {
            if (faultNumber != 0) {
                return NONE;
            }
            skipBlanks();
            numberAt = at;
            int value = 0;
            while (at < length && letters[at] >= '0' && letters[at] <= '9') {
                // more figures are a fault whatever they say, and must not overflow
                if (at - numberAt < MOST_FIGURES) {
                    value = value * 10 + letters[at] - '0';
                }
                at++;
            }
            if (at == numberAt) {
                noteFault(CANNOT_STAND, at);
            } else if (at - numberAt > MOST_FIGURES || isOutside(value, least, greatest)) {
                noteFault(BAD_NUMBER, numberAt);
            }
            return value;
        }

        private void readEnd() {
            if (faultNumber != 0) {
                return;
            }
            skipBlanks();
            if (at < length && letters[at] == ';') {
                at++;
            } else {
                noteFault(CANNOT_STAND, at);
            }
        }

        private void skipBlanks() {
            while (at < length && letters[at] == ' ') {
                at++;
            }
        }

        /** Only the first is kept: it is read from the left. */
        private void noteFault(int number, int where) {
            if (faultNumber == 0) {
                faultNumber = number;
                faultAt = where;
            }
        }
    }

    /** All that changes from hour to hour; what is undone, kept or tried is a copy of it. */
    private static final class Flock {
        int tree = 0;
        int hours = 0;
        int netted = 0;
        int ringed = NONE;
        int placesEver = 0;
        final int[] birds = new int[MOST_PERSONS];
        final int[] crumbs = new int[MOST_PERSONS];
        final int[] owed = new int[MOST_DEBTS];
        final int[] places = new int[MOST_PLACES];

        void begin(Parish here) {
            tree = here.tree;
            hours = 0;
            netted = 0;
            ringed = here.stands ? TREE : NONE;
            for (int p = MOST_PERSONS - 1; p >= 0; p--) {
                birds[p] = here.hasPerson(p) ? here.birds[p] : 0;
                crumbs[p] = 0;
                ringed = birds[p] > 0 ? p : ringed;
            }
            for (int d = 0; d < MOST_DEBTS; d++) {
                owed[d] = here.hasDebt(d) ? here.owed[d] : 0;
            }
            placesEver = 0;
            if (here.stands) {
                notePlace();
            }
        }

        void copyFrom(Flock other) {
            tree = other.tree;
            hours = other.hours;
            netted = other.netted;
            ringed = other.ringed;
            placesEver = other.placesEver;
            System.arraycopy(other.birds, 0, birds, 0, MOST_PERSONS);
            System.arraycopy(other.crumbs, 0, crumbs, 0, MOST_PERSONS);
            System.arraycopy(other.owed, 0, owed, 0, MOST_DEBTS);
            System.arraycopy(other.places, 0, places, 0, MOST_PLACES);
        }

        boolean hasNet(int p) {
            return has(netted, p);
        }

        int inAllHats() {
            int sum = 0;
            for (int p = 0; p < birds.length; p++) {
                sum += birds[p];
            }
            return sum;
        }

        private void notePlace() {
            places[Math.floorMod(placesEver, MOST_PLACES)] = ringed;
            placesEver++;
        }

        int placesKnown() {
            return Math.min(placesEver, MOST_PLACES);
        }

        int placeBack(int i) {
            if (i < 0 || i >= placesKnown()) {
                return NONE;
            }
            return places[Math.floorMod(placesEver - 1 - i, MOST_PLACES)];
        }

        /** Every bird that goes anywhere goes by this, so that the ringed one goes first. */
        void move(int from, int to, int n) {
            changeBy(from, -n);
            changeBy(to, n);
            if (n > 0 && ringed == from) {
                ringed = to;
                notePlace();
            }
        }

        private void changeBy(int place, int n) {
            if (place >= 0 && place < birds.length) {
                birds[place] += n;
            } else {
                tree += n;
            }
        }

        void addCrumbs(int p, int n) {
            if (p >= 0 && p < crumbs.length) {
                crumbs[p] = Math.min(crumbs[p] + n, MOST_CRUMBS);
            }
        }

        /** Answers what is owed yet between these two. */
        int lessenDebts(Parish here, int from, int to, int n) {
            int left = n;
            int yet = 0;
            for (int d = 0; d < here.debts; d++) {
                if (here.debtor[d] == from && here.creditor[d] == to) {
                    int less = Math.min(left, owed[d]);
                    owed[d] -= less;
                    left -= less;
                    yet += owed[d];
                }
            }
            return yet;
        }

        int scare(Parish here, int x, int doors) {
            int flown = 0;
            for (int p = 0; p < here.persons; p++) {
                if (Math.abs(here.door[p] - x) <= doors && !hasNet(p)) {
                    flown += birds[p];
                    move(p, TREE, birds[p]);
                }
            }
            return flown;
        }

        /** Crumbs are asked for apart, as WATCHED supposes others than there are. */
        int loss(Parish here, int p, boolean withCrumbs) {
            int n = birds[p];
            if (n == 0 || hasNet(p)) {
                return 0;
            }
            int plain = n / 10 + 1;
            switch (here.kind[p]) {
                case SHOP: return plain / 2;
                case MISER: return 0;
                case BRIDE: return Math.min(2 * plain, n);
                case TENOR: return withCrumbs ? 0 : plain;
                default: return plain;
            }
        }

        int drawnBy(Parish here, int drawer) {
            int sum = 0;
            for (int p = 0; p < here.persons; p++) {
                sum += p == drawer ? 0 : loss(here, p, false);
            }
            return sum;
        }

        /** The tree, if nobody has crumbs. */
        private int whoDraws() {
            int drawer = TREE;
            int mostCrumbs = 0;
            for (int p = 0; p < crumbs.length; p++) {
                if (crumbs[p] > mostCrumbs) {
                    mostCrumbs = crumbs[p];
                    drawer = p;
                }
            }
            return drawer;
        }

        /** An hour but for dusk. The drawer loses nothing, so no loss hangs on what another one brought. */
        void flyForAnHour(Parish here) {
            int drawer = whoDraws();
            for (int p = 0; p < here.persons; p++) {
                if (p != drawer) {
                    move(p, drawer, loss(here, p, crumbs[p] > 0));
                }
            }
            for (int p = 0; p < crumbs.length; p++) {
                crumbs[p] /= 2;
            }
            hours++;
        }

        boolean isDusk(Parish here) {
            return here.dusk > 0 && hours % here.dusk == 0;
        }

        void passHour(Parish here) {
            flyForAnHour(here);
            if (isDusk(here)) {
                goHome(here);
            }
        }

        private void goHome(Parish here) {
            for (int p = 0; p < here.persons; p++) {
                if (here.kind[p] != MISER) {
                    move(p, TREE, birds[p]);
                }
            }
        }
    }

    /** What can be undone: a ring, so that the oldest are lost. */
    private static final class Past {
        private final Flock[] flocks = new Flock[MOST_UNDONE];
        private int next = 0;
        int size = 0;

        Past() {
            for (int i = 0; i < flocks.length; i++) {
                flocks[i] = new Flock();
            }
        }

        void forget() {
            size = 0;
        }

        void remember(Flock flock) {
            flocks[next].copyFrom(flock);
            next = (next + 1) % MOST_UNDONE;
            size = Math.min(size + 1, MOST_UNDONE);
        }

        void recallInto(Flock flock) {
            if (size > 0) {
                next = (next + MOST_UNDONE - 1) % MOST_UNDONE;
                size--;
                flock.copyFrom(flocks[next]);
            }
        }
    }

    /** Debts paid one behind the other. What is in the hats then hangs on which are paid, not on their order. */
    private static final class Settling {
        private final int[] hats = new int[MOST_PERSONS];
        private final int[] bestBySet = new int[1 << MOST_DEBTS];

        /** The least row of the most debts, as figures; 0 if none can be paid. */
        int longestRow(Parish here, Flock now) {
            beginSets();
            int mostPaid = 0;
            int row = 0;
            for (int paid = 0; paid < (1 << here.debts); paid++) {
                int rowHere = bestBySet[paid];
                if (rowHere == NONE) {
                    continue;
                }
                int size = Integer.bitCount(paid);
                if (size > mostPaid || (size == mostPaid && rowHere < row)) {
                    mostPaid = size;
                    row = rowHere;
                }
                fillHats(here, now, paid);
                for (int d = 0; d < here.debts; d++) {
                    if (isOpen(now, paid, d) && hats[here.debtor[d]] >= now.owed[d]) {
                        offer(paid | (1 << d), rowHere * 10 + d + 1);
                    }
                }
            }
            return row;
        }

        /** More birds in p's hat change no other hat, so a set needs the most that any of its payments lacked. */
        int leastFloat(Parish here, Flock now, int p) {
            beginSets();
            for (int paid = 0; paid < (1 << here.debts); paid++) {
                int moreHere = bestBySet[paid];
                if (moreHere == NONE) {
                    continue;
                }
                fillHats(here, now, paid);
                for (int d = 0; d < here.debts; d++) {
                    int lack = now.owed[d] - hats[here.debtor[d]];
                    if (isOpen(now, paid, d) && (lack <= 0 || here.debtor[d] == p)) {
                        offer(paid | (1 << d), Math.max(moreHere, lack));
                    }
                }
            }
            int more = bestBySet[allOpen(here, now)];
            return more <= MOST_FLOAT ? more : NONE;
        }

        private static int allOpen(Parish here, Flock now) {
            int set = 0;
            for (int d = 0; d < here.debts; d++) {
                set |= now.owed[d] > 0 ? 1 << d : 0;
            }
            return set;
        }

        private void beginSets() {
            for (int set = 0; set < bestBySet.length; set++) {
                bestBySet[set] = NONE;
            }
            bestBySet[0] = 0;
        }

        private void offer(int set, int value) {
            if (bestBySet[set] == NONE || value < bestBySet[set]) {
                bestBySet[set] = value;
            }
        }

        private static boolean isOpen(Flock now, int paid, int d) {
            return now.owed[d] > 0 && !has(paid, d);
        }

        private void fillHats(Parish here, Flock now, int paid) {
            System.arraycopy(now.birds, 0, hats, 0, MOST_PERSONS);
            for (int d = 0; d < here.debts; d++) {
                if (has(paid, d)) {
                    hats[here.debtor[d]] -= now.owed[d];
                    hats[here.creditor[d]] += now.owed[d];
                }
            }
        }
    }

    /** What was watched, felt and written into the book. */
    private static final class Seen {
        private final int[] watched = new int[MOST_WATCHED];
        private final int[] doorsOff = new int[MOST_FELT];
        private final boolean[] wasFelt = new boolean[MOST_FELT];
        private final int[] entryPerson = new int[MOST_ENTRIES];
        private final int[] entryBirds = new int[MOST_ENTRIES];
        int watches = 0;
        int feelings = 0;
        int entries = 0;

        void forget() {
            watches = 0;
            feelings = 0;
            entries = 0;
        }

        int addWatched(int n) {
            if (watches < MOST_WATCHED) {
                watched[watches] = n;
                watches++;
            }
            return watches;
        }

        int addFelt(int doors, boolean is) {
            if (feelings < MOST_FELT) {
                doorsOff[feelings] = doors;
                wasFelt[feelings] = is;
                feelings++;
            }
            return feelings;
        }

        int addEntry(int p, int birds) {
            if (entries < MOST_ENTRIES) {
                entryPerson[entries] = p;
                entryBirds[entries] = birds;
                entries++;
            }
            return entries;
        }

        boolean allWatchedAre(int n) {
            for (int i = 0; i < watches; i++) {
                if (watched[i] != n) {
                    return false;
                }
            }
            return true;
        }

        int firstWrong(Flock now) {
            for (int i = 0; i < entries; i++) {
                if (now.birds[entryPerson[i]] != entryBirds[i]) {
                    return i;
                }
            }
            return NONE;
        }

        private boolean canReach(int doors) {
            for (int i = 0; i < feelings; i++) {
                if ((doorsOff[i] <= doors) != wasFelt[i]) {
                    return false;
                }
            }
            return true;
        }

        int reachesBelow(int end) {
            int number = 0;
            for (int r = 0; r < end; r++) {
                number += canReach(r) ? 1 : 0;
            }
            return number;
        }

        int leastReach() {
            for (int r = 0; r <= LAST_DOOR; r++) {
                if (canReach(r)) {
                    return r;
                }
            }
            return NONE;
        }

        int greatestReach() {
            for (int r = LAST_DOOR; r >= 0; r--) {
                if (canReach(r)) {
                    return r;
                }
            }
            return NONE;
        }

        /** A hawk at door 0 is felt at y by reaches of y and more: those below y are the other part. */
        int bestDoorToPart() {
            int all = reachesBelow(LAST_DOOR + 1);
            int least = all;
            int best = NONE;
            int below = 0;
            for (int y = 0; y <= LAST_DOOR; y++) {
                int greaterPart = Math.max(below, all - below);
                if (greaterPart < least) {
                    least = greaterPart;
                    best = y;
                }
                below += canReach(y) ? 1 : 0;
            }
            return best;
        }
    }
}
