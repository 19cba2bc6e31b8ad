import java.util.ArrayList;
import java.util.Arrays;
import java.util.Collections;
import java.util.Comparator;
import java.util.LinkedList;
import java.util.List;

/** A second writing of the document, slow and by other ways than the class, to compare it with. */
final class Model {
    static final int NONE = -1, UNKNOWN = -1000000001, OUTSIDE = -1000000002, NOT = -1000000003, FULL = -1000000004;

    /** All of section 2; hats and the tree hold birds one by one: true is the ringed one, always first of its place. */
    private static final class Day {
        List<LinkedList<Boolean>> places = new ArrayList<>();   // the persons', and behind them the tree's
        List<Boolean> nets = new ArrayList<>();
        List<Integer> crumbs = new ArrayList<>();
        List<Integer> owed = new ArrayList<>();
        List<Integer> trace = new ArrayList<>();
        int hours = 0;

        Day copy() {
            Day d = new Day();
            for (LinkedList<Boolean> place : places) {
                d.places.add(new LinkedList<>(place));
            }
            d.nets.addAll(nets);
            d.crumbs.addAll(crumbs);
            d.owed.addAll(owed);
            d.trace.addAll(trace);
            d.hours = hours;
            return d;
        }

        void go(int from, int to, int n) {
            for (int i = 0; i < n; i++) {
                if (places.get(from).removeFirst()) {
                    places.get(to).addFirst(true);
                    trace.add(to == places.size() - 1 ? -2 : to);
                } else {
                    places.get(to).addLast(false);
                }
            }
        }

        int birds(int place) {
            return places.get(place).size();
        }
    }

    private final StringBuilder text = new StringBuilder();
    private int fault = NONE;
    private boolean there = false;
    private int dusk = 0;
    private List<int[]> persons = new ArrayList<>();
    private List<int[]> debts = new ArrayList<>();
    private Day now = new Day();
    private final LinkedList<Day> past = new LinkedList<>();
    private final Day[] images = new Day[2];
    private final long[] imageSeeds = new long[2];
    private final List<Integer> watched = new ArrayList<>();
    private final List<int[]> felt = new ArrayList<>();
    private final List<int[]> book = new ArrayList<>();
    private long seed = 0;

    // ---- the parish

    int feed(int letter) {
        if (letter < 0 || letter > 255) {
            return OUTSIDE;
        }
        if (text.length() == 240) {
            return FULL;
        }
        text.append((char) letter);
        return text.length();
    }

    /** Every fault of the text as {letter, number}, as far as it can be read; the least pair is the one that counts. */
    private int[] firstFault(String s, List<int[]> clauses) {
        int at = 0;
        boolean tree = false;
        int people = 0;
        int owing = 0;
        while (true) {
            at = behindBlanks(s, at);
            if (at == s.length()) {
                return null;
            }
            char word = s.charAt(at);
            if ("tpd".indexOf(word) < 0 || (!tree && word != 't')) {
                return new int[] {at, 1};
            }
            if ((tree && word == 't') || (people == 7 && word == 'p') || (owing == 9 && word == 'd')) {
                return new int[] {at, 3};
            }
            at++;
            int[][] bounds = word == 't' ? new int[][] {{0, 999}, {1, 24}}
                : word == 'p' ? new int[][] {{0, 4}, {0, 99}, {0, 50}}
                : new int[][] {{0, people - 1}, {0, people - 1}, {1, 99}};
            int[] clause = new int[bounds.length + 1];
            clause[0] = word;
            for (int i = 0; i < bounds.length; i++) {
                at = behindBlanks(s, at);
                int end = at;
                while (end < s.length() && "0123456789".indexOf(s.charAt(end)) >= 0) {
                    end++;
                }
                if (end == at) {
                    return new int[] {at, 1};
                }
                if (end - at > 3) {
                    return new int[] {at, 2};
                }
                int value = Integer.parseInt(s.substring(at, end));
                if (value < bounds[i][0] || value > bounds[i][1]) {
                    return new int[] {at, 2};
                }
                if (word == 'd' && i == 1 && value == clause[1]) {
                    return new int[] {at, 4};
                }
                clause[i + 1] = value;
                at = end;
            }
            at = behindBlanks(s, at);
            if (at == s.length() || s.charAt(at) != ';') {
                return new int[] {at, 1};
            }
            at++;
            clauses.add(clause);
            tree = true;
            people += word == 'p' ? 1 : 0;
            owing += word == 'd' ? 1 : 0;
        }
    }

    private static int behindBlanks(String s, int at) {
        int i = at;
        while (i < s.length() && s.charAt(i) == ' ') {
            i++;
        }
        return i;
    }

    int parish() {
        String s = text.toString();
        text.setLength(0);
        List<int[]> clauses = new ArrayList<>();
        int[] first = firstFault(s, clauses);
        fault = first == null ? NONE : first[0];
        if (first != null) {
            return -10 - first[1];
        }
        there = !clauses.isEmpty();
        dusk = there ? clauses.get(0)[2] : 0;
        persons = new ArrayList<>();
        debts = new ArrayList<>();
        now = new Day();
        for (int[] c : clauses) {
            if (c[0] == 'p') {
                persons.add(c);
                now.places.add(new LinkedList<>(Collections.nCopies(c[2], false)));
                now.nets.add(false);
                now.crumbs.add(0);
            } else if (c[0] == 'd') {
                debts.add(c);
                now.owed.add(c[3]);
            }
        }
        now.places.add(new LinkedList<>(Collections.nCopies(there ? clauses.get(0)[1] : 0, false)));
        putRing();
        past.clear();
        images[0] = null;
        images[1] = null;
        tear();
        return persons.size();
    }

    private void putRing() {
        for (int i = 0; i < now.places.size() && there; i++) {
            if (!now.places.get(i).isEmpty()) {
                now.places.get(i).set(0, true);
                now.trace.add(i == persons.size() ? -2 : i);
                return;
            }
        }
        if (there) {
            now.trace.add(-2);
        }
    }

    int fault() {
        return fault;
    }

    int told(int what) {
        int tree = there ? now.birds(persons.size()) : 0;
        switch (what) {
            case 0: return dusk;
            case 1: return persons.size();
            case 2: return debts.size();
            case 3: return text.length();
            case 4: return now.hours;
            case 5: return tree;
            case 6: return hats(now);
            case 7: {
                int set = 0;
                for (int p = 0; p < persons.size(); p++) {
                    set += now.nets.get(p) ? 1 << p : 0;
                }
                return set;
            }
            case 8: return there ? now.trace.get(now.trace.size() - 1) : NONE;
            case 9: return Math.min(20, now.trace.size());
            case 10: {
                int best = NONE;
                for (int p = persons.size() - 1; p >= 0; p--) {
                    best = best == NONE || now.birds(p) >= now.birds(best) ? p : best;
                }
                return best;
            }
            case 11: {
                int set = 0;
                for (int p = 0; p < persons.size(); p++) {
                    set += comesTo(p, p, 0) ? 1 << p : 0;
                }
                return set;
            }
            case 12: return now.owed.stream().mapToInt(Integer::intValue).sum();
            case 13: return who();
            case 14: return watched.size();
            case 15: return felt.size();
            case 16: return book.size();
            case 17: return past.size();
            default: return OUTSIDE;
        }
    }

    private boolean comesTo(int from, int goal, int depth) {
        if (depth > 7) {
            return false;
        }
        for (int d = 0; d < debts.size(); d++) {
            if (now.owed.get(d) > 0 && debts.get(d)[1] == from
                && (debts.get(d)[2] == goal || comesTo(debts.get(d)[2], goal, depth + 1))) {
                return true;
            }
        }
        return false;
    }

    private int hats(Day day) {
        int sum = 0;
        for (int p = 0; p < persons.size(); p++) {
            sum += day.birds(p);
        }
        return sum;
    }

    private int who() {
        int set = 0;
        for (int p = 0; p < persons.size(); p++) {
            Day day = now.copy();
            Collections.fill(day.crumbs, 0);
            day.crumbs.set(p, 50);
            int had = day.birds(p);
            fly(day);
            boolean all = true;
            for (int n : watched) {
                all &= n == day.birds(p) - had;
            }
            set += all ? 1 << p : 0;
        }
        return set;
    }

    private int loss(Day day, int p) {
        int n = day.birds(p);
        int zero = n == 0 ? 0 : n / 10 + 1;
        int[] byKind = {zero, zero / 2, 0, zero * 2 > n ? n : zero * 2, day.crumbs.get(p) > 0 ? 0 : zero};
        return day.nets.get(p) ? 0 : byKind[persons.get(p)[1]];
    }

    int person(int p, int what) {
        if (p < 0 || p >= persons.size()) {
            return UNKNOWN;
        }
        if (what < 0 || what > 9) {
            return OUTSIDE;
        }
        int owes = 0;
        int isOwed = 0;
        for (int d = 0; d < debts.size(); d++) {
            owes += debts.get(d)[1] == p ? now.owed.get(d) : 0;
            isOwed += debts.get(d)[2] == p ? now.owed.get(d) : 0;
        }
        int b = now.birds(p);
        return new int[] {persons.get(p)[1], b, persons.get(p)[3], now.crumbs.get(p), now.nets.get(p) ? 1 : 0,
            b / 9, b - b / 9 * 9, owes, isOwed, loss(now, p)}[what];
    }

    int debt(int d, int what) {
        if (d < 0 || d >= debts.size()) {
            return UNKNOWN;
        }
        return what == 0 ? debts.get(d)[1] : what == 1 ? debts.get(d)[2] : what == 2 ? now.owed.get(d) : OUTSIDE;
    }

    int trace(int i) {
        return i < 0 || i >= told(9) ? NONE : now.trace.get(now.trace.size() - 1 - i);
    }

    // ---- what is done

    private boolean unknown(int p) {
        return p < 0 || p >= persons.size();
    }

    private void remember() {
        past.addLast(now.copy());
        if (past.size() > 16) {
            past.removeFirst();
        }
    }

    int count(int p, int n) {
        if (unknown(p)) {
            return UNKNOWN;
        }
        if (n < 1 || n > 999) {
            return OUTSIDE;
        }
        if (now.birds(persons.size()) < n) {
            return NOT;
        }
        remember();
        now.go(persons.size(), p, n);
        return now.birds(p);
    }

    int pay(int p, int q, int n) {
        if (unknown(p) || unknown(q) || p == q) {
            return UNKNOWN;
        }
        if (n < 1 || n > 999) {
            return OUTSIDE;
        }
        if (now.birds(p) < n) {
            return NOT;
        }
        remember();
        now.go(p, q, n);
        for (int bird = 0; bird < n; bird++) {
            for (int d = 0; d < debts.size(); d++) {
                if (debts.get(d)[1] == p && debts.get(d)[2] == q && now.owed.get(d) > 0) {
                    now.owed.set(d, now.owed.get(d) - 1);
                    break;
                }
            }
        }
        int yet = 0;
        for (int d = 0; d < debts.size(); d++) {
            yet += debts.get(d)[1] == p && debts.get(d)[2] == q ? now.owed.get(d) : 0;
        }
        return yet;
    }

    int strew(int p, int n) {
        if (unknown(p)) {
            return UNKNOWN;
        }
        if (n < 1 || n > 99) {
            return OUTSIDE;
        }
        remember();
        now.crumbs.set(p, Math.min(99, now.crumbs.get(p) + n));
        return now.crumbs.get(p);
    }

    int net(int p, boolean is) {
        if (unknown(p)) {
            return UNKNOWN;
        }
        remember();
        return now.nets.set(p, is) ? 1 : 0;
    }

    int hawk(int x, int n) {
        if (x < 0 || x > 50 || n < 0 || n > 50) {
            return OUTSIDE;
        }
        if (!there) {
            return NOT;
        }
        remember();
        return scare(x, n);
    }

    private int scare(int x, int n) {
        int before = hats(now);
        for (int p = 0; p < persons.size(); p++) {
            int door = persons.get(p)[3];
            if (door >= x - n && door <= x + n && !now.nets.get(p)) {
                now.go(p, persons.size(), now.birds(p));
            }
        }
        return before - hats(now);
    }

    /** An hour but for dusk, by losses that are all told ahead of any flight. */
    private void fly(Day day) {
        int drawer = persons.size();
        for (int p = persons.size() - 1; p >= 0; p--) {
            int most = drawer == persons.size() ? 0 : day.crumbs.get(drawer);
            if (day.crumbs.get(p) > 0 && day.crumbs.get(p) >= most) {
                drawer = p;
            }
        }
        int[] losses = new int[persons.size()];
        for (int p = 0; p < losses.length; p++) {
            losses[p] = loss(day, p);
        }
        for (int p = 0; p < losses.length; p++) {
            if (p != drawer) {
                day.go(p, drawer, losses[p]);
            }
        }
        day.crumbs.replaceAll(c -> c / 2);
        day.hours++;
    }

    private void pass(Day day) {
        fly(day);
        for (int p = 0; p < persons.size() && day.hours % dusk == 0; p++) {
            if (persons.get(p)[1] != 2) {
                day.go(p, persons.size(), day.birds(p));
            }
        }
    }

    private int refusal(int n) {
        return n < 1 || n > 60 ? OUTSIDE : !there ? NOT : now.hours > 9000 ? FULL : 0;
    }

    int hour(int n) {
        if (refusal(n) != 0) {
            return refusal(n);
        }
        remember();
        for (int i = 0; i < n; i++) {
            pass(now);
        }
        return told(5);
    }

    private int draw(int n) {
        seed = (seed * 1103515245L + 12345L) % 2147483648L;
        return (int) (seed / 65536L % n);
    }

    int drift(int n) {
        if (refusal(n) != 0) {
            return refusal(n);
        }
        remember();
        for (int i = 0; i < n; i++) {
            int deed = persons.isEmpty() ? 4 : draw(5);
            if (deed == 0) {
                int p = draw(persons.size());
                now.go(persons.size(), p, Math.min(9, told(5)));
            } else if (deed == 1) {
                int p = draw(persons.size());
                int more = draw(20);
                now.crumbs.set(p, Math.min(99, now.crumbs.get(p) + more));
            } else if (deed == 2) {
                int x = draw(51);
                int far = draw(10);
                scare(x, far);
            }
            pass(now);
        }
        return told(5);
    }

    int undo() {
        if (past.isEmpty()) {
            return NOT;
        }
        now = past.removeLast();
        return past.size();
    }

    // ---- tried

    int hat(int p, int n) {
        if (unknown(p)) {
            return UNKNOWN;
        }
        if (n < 0 || n > 100) {
            return OUTSIDE;
        }
        Day day = now.copy();
        for (int i = 0; i < n; i++) {
            pass(day);
        }
        return day.birds(p);
    }

    int most(int p, int n, int what) {
        if (unknown(p)) {
            return UNKNOWN;
        }
        if (n < 0 || n > 100 || what < 0 || what > 1) {
            return OUTSIDE;
        }
        List<Integer> all = new ArrayList<>();
        for (int i = 0; i <= n; i++) {
            all.add(hat(p, i));
        }
        int max = Collections.max(all);
        return what == 1 ? max : all.indexOf(max);
    }

    int kept(int p) {
        if (unknown(p)) {
            return UNKNOWN;
        }
        Day day = now.copy();
        do {
            fly(day);
        } while (day.hours % dusk != 0);
        return day.birds(p);
    }

    private void rows(int[] hats, List<Integer> open, String row, List<String> found) {
        found.add(row);
        for (int d : open) {
            int[] c = debts.get(d);
            int n = now.owed.get(d);
            if (hats[c[1]] >= n) {
                int[] next = hats.clone();
                next[c[1]] -= n;
                next[c[2]] += n;
                List<Integer> rest = new ArrayList<>(open);
                rest.remove(Integer.valueOf(d));
                rows(next, rest, row + (d + 1), found);
            }
        }
    }

    private List<Integer> openDebts() {
        List<Integer> open = new ArrayList<>();
        for (int d = 0; d < debts.size(); d++) {
            if (now.owed.get(d) > 0) {
                open.add(d);
            }
        }
        return open;
    }

    private String bestRow(int p, int more) {
        int[] hats = new int[persons.size()];
        for (int i = 0; i < hats.length; i++) {
            hats[i] = now.birds(i) + (i == p ? more : 0);
        }
        List<String> found = new ArrayList<>();
        rows(hats, openDebts(), "", found);
        return Collections.min(found, Comparator.comparingInt((String s) -> -s.length()).thenComparing(s -> s));
    }

    int settled(int what) {
        if (what < 0 || what > 1) {
            return OUTSIDE;
        }
        String row = bestRow(NONE, 0);
        return what == 0 ? row.length() : row.isEmpty() ? 0 : Integer.parseInt(row);
    }

    int toFloat(int p) {
        if (unknown(p)) {
            return UNKNOWN;
        }
        int low = 0;
        int high = 1000;
        while (low < high) {
            int mid = (low + high) / 2;
            if (bestRow(p, mid).length() == openDebts().size()) {
                high = mid;
            } else {
                low = mid + 1;
            }
        }
        return low > 999 ? NONE : low;
    }

    int nets(int n, int h) {
        if (n < 0 || n > 9999 || h < 1 || h > 24) {
            return OUTSIDE;
        }
        for (int size = 0; size <= 7 && there; size++) {
            for (int set = 0; set < 1 << persons.size(); set++) {
                if (Integer.bitCount(set) == size) {
                    Day day = now.copy();
                    for (int p = 0; p < persons.size(); p++) {
                        day.nets.set(p, day.nets.get(p) || (set & 1 << p) != 0);
                    }
                    for (int i = 0; i < h; i++) {
                        pass(day);
                    }
                    if (hats(day) >= n) {
                        return set;
                    }
                }
            }
        }
        return NONE;
    }

    int calm(int n, int q) {
        if (n < 0 || n > 60 || q < 0 || q > 100) {
            return OUTSIDE;
        }
        return n == 0 ? 1000000000 : (int) ((long) calm(n - 1, q) * q / 100);
    }

    // ---- what is seen

    int watch(int n) {
        if (n < 0 || n > 99) {
            return OUTSIDE;
        }
        if (watched.size() == 6) {
            return FULL;
        }
        watched.add(n);
        return watched.size();
    }

    int feel(int x, int y, boolean is) {
        if (x < 0 || x > 50 || y < 0 || y > 50) {
            return OUTSIDE;
        }
        if (felt.size() == 6) {
            return FULL;
        }
        felt.add(new int[] {x, y, is ? 1 : 0});
        return felt.size();
    }

    int reach(int what) {
        if (what < 0 || what > 3) {
            return OUTSIDE;
        }
        List<Integer> fit = new ArrayList<>();
        for (int r = 0; r <= 50; r++) {
            boolean all = true;
            for (int[] f : felt) {
                boolean near = f[1] >= f[0] - r && f[1] <= f[0] + r;
                all &= near == (f[2] == 1);
            }
            if (all) {
                fit.add(r);
            }
        }
        if (what == 0) {
            return fit.size();
        }
        if (what < 3) {
            return fit.isEmpty() ? NONE : what == 1 ? Collections.min(fit) : Collections.max(fit);
        }
        int[] parts = new int[51];
        for (int y = 0; y <= 50; y++) {
            int door = y;
            int feels = (int) fit.stream().filter(r -> door <= r).count();
            parts[y] = Math.max(feels, fit.size() - feels);
        }
        int least = Arrays.stream(parts).min().getAsInt();
        for (int y = 0; y <= 50 && least < fit.size(); y++) {
            if (parts[y] == least) {
                return y;
            }
        }
        return NONE;
    }

    int write(int p, int birds) {
        if (unknown(p)) {
            return UNKNOWN;
        }
        if (birds < 0 || birds > 9999) {
            return OUTSIDE;
        }
        if (book.size() == 15) {
            return FULL;
        }
        book.add(new int[] {p, birds});
        return book.size();
    }

    int tear() {
        int all = watched.size() + felt.size() + book.size();
        watched.clear();
        felt.clear();
        book.clear();
        return all;
    }

    int judge() {
        for (int[] entry : book) {
            if (now.birds(entry[0]) != entry[1]) {
                return book.indexOf(entry);
            }
        }
        return NONE;
    }

    // ---- draws, images

    int seed(int v) {
        if (v < 0) {
            return OUTSIDE;
        }
        int was = (int) seed;
        seed = v;
        return was;
    }

    int keep(int i) {
        if (i != 0 && i != 1) {
            return UNKNOWN;
        }
        images[i] = now.copy();
        imageSeeds[i] = seed;
        past.clear();
        return 1;
    }

    int goBack(int i) {
        if (i != 0 && i != 1) {
            return UNKNOWN;
        }
        if (images[i] == null) {
            return NOT;
        }
        now = images[i].copy();
        seed = imageSeeds[i];
        past.clear();
        return 1;
    }
}
