import java.util.ArrayDeque;
import java.util.ArrayList;
import java.util.Arrays;
import java.util.Deque;
import java.util.List;
import java.util.regex.Matcher;
import java.util.regex.Pattern;

/**
 * The document told a second time, as plainly as the Java library allows and without regard to
 * LANGUAGE.md: what RandomRuns compares the class with. It searches where the class reasons.
 */
final class PlainRoad {
    static final int BAD = -1, NOT = -2, FULL = -3, NONE = -4, NULL = -11, CAST = -12, INDEX = -13, SIZE = -14;

    record Thing(int kind, int worth, int load, int care) {
        int load(int n) {
            return kind == 2 ? load + 2 * n : load;
        }

        int care(int n) {
            return care + (kind == 1 || kind == 3 ? n : 0) + (kind == 3 && n >= 3 ? 5 : 0);
        }

        int felt(int mind, int n) {
            return mind == 0 ? load(n) : care(n);
        }
    }

    record Person(int milestone, int margin) { }

    /** Where he is in his walk; never changed, but made anew. */
    record Walk(int has, int n, int mind, int at, int changes, List<Integer> theirs, int refused) {
        Walk with(int newHas, int newN) {
            return new Walk(newHas, newN, mind, at, changes, theirs, refused);
        }
    }

    record All(List<Thing> things, List<Person> people, int heed, int well, Walk walk, List<Walk> past) { }

    All all = new All(List.of(), List.of(), 99, NONE, new Walk(NONE, 0, 0, 0, 0, List.of(), NONE), List.of());
    All kept = null;
    String tape = "";
    final Object[] sheets = new Object[4];

    int call(String name, long... a) {
        int p = a.length > 0 ? (int) a[0] : 0, q = a.length > 1 ? (int) a[1] : 0;
        int r = a.length > 2 ? (int) a[2] : 0, s = a.length > 3 ? (int) a[3] : 0;
        switch (name) {
            case "thing": return thing(p, q, r, s);
            case "of": return isThing(p) && in(q, 0, 4) ? of(p, q) : BAD;
            case "felt": return isThing(p) && in(q, 0, 99) && in(r, 0, 1) ? all.things.get(p).felt(r, q) : BAD;
            case "person": return person(p, q, r);
            case "told": return isPerson(p) && in(q, 0, 2) ? told(p, q) : BAD;
            case "move": return move(p, q);
            case "take": return take(p);
            case "count": return in(p, 0, 9) ? count(p) : BAD;
            case "heed": return heed(p);
            case "well": return well(p);
            case "type": return type(p);
            case "road": return road();
            case "go": return go();
            case "undo": return undo();
            case "again": return again();
            case "glad": return glad(p);
            case "home": return in(p, 0, 2) ? home(p) : BAD;
            case "lost": return lost(all);
            case "lurk": return lurk(p, q);
            case "stand": return stand(p, q);
            case "sister": return sister(p, q);
            case "meet": return meet(p, q);
            case "first": return first(p);
            case "cheated": return cheated(p);
            case "chance": return chance(p, q);
            case "image": kept = all; return 1;
            case "restore": if (kept == null) return NONE; all = kept; return 1;
            case "seen": return seen(p, q, r, s);
            case "film": return film(p, q, r);
            case "deal": return deal(p, q, r);
            case "sheet": return sheet(p, q, r);
            case "drop": return drop(p);
            case "item": return item(p, q, r, a[3]);
            case "copy": return copy(p, q, r, s, (int) a[4]);
            default: throw new IllegalArgumentException(name);
        }
    }

    static boolean in(long v, long least, long most) {
        return least <= v && v <= most;
    }

    boolean isThing(int t) {
        return in(t, 0, all.things.size() - 1);
    }

    boolean isPerson(int p) {
        return in(p, 0, all.people.size() - 1);
    }

    static int owner(int thing, Walk w) {
        return w.has == thing ? 8 : w.theirs.contains(thing) ? w.theirs.indexOf(thing) : NONE;
    }

    static <T> List<T> plus(List<T> list, T x) {
        List<T> longer = new ArrayList<>(list);
        longer.add(x);
        return longer;
    }

    static <T> List<T> put(List<T> list, int i, T x) {
        List<T> other = new ArrayList<>(list);
        other.set(i, x);
        return other;
    }

    static Walk withTheirs(Walk w, List<Integer> theirs) {
        return new Walk(w.has, w.n, w.mind, w.at, w.changes, theirs, w.refused);
    }

    static All withWalk(All a, Walk w) {
        return new All(a.things, a.people, a.heed, a.well, w, a.past);
    }

    static All withHeed(All a, int heed) {
        return new All(a.things, a.people, heed, a.well, a.walk, a.past);
    }

    static All withPeople(All a, List<Person> people) {
        return new All(a.things, people, a.heed, a.well, a.walk, a.past);
    }

    int thing(int kind, int worth, int load, int care) {
        if (!(in(kind, 0, 3) && in(worth, 0, 99) && in(load, 0, 30) && in(care, 0, 30))) return BAD;
        if (all.things.size() == 10) return FULL;
        all = new All(plus(all.things, new Thing(kind, worth, load, care)), all.people, all.heed, all.well, all.walk, List.of());
        return all.things.size() - 1;
    }

    int of(int t, int what) {
        Thing x = all.things.get(t);
        return new int[] {x.kind, x.worth, x.load, x.care, owner(t, all.walk)}[what];
    }

    int person(int milestone, int t, int margin) {
        if (!in(milestone, 0, 11) || !(t == NONE || isThing(t)) || !in(margin, 0, 20)) return BAD;
        if (t != NONE && owner(t, all.walk) != NONE) return NOT;
        if (all.people.size() == 8) return FULL;
        all = new All(all.things, plus(all.people, new Person(milestone, margin)), all.heed, all.well,
            withTheirs(all.walk, plus(all.walk.theirs, t)), List.of());
        return all.people.size() - 1;
    }

    int told(int p, int what) {
        return new int[] {all.people.get(p).milestone, all.walk.theirs.get(p), all.people.get(p).margin}[what];
    }

    int move(int p, int milestone) {
        if (!isPerson(p) || !in(milestone, 0, 11)) return BAD;
        Person was = all.people.get(p);
        all = withPeople(all, put(all.people, p, new Person(milestone, was.margin)));
        return was.milestone;
    }

    int take(int t) {
        if (t != NONE && !isThing(t)) return BAD;
        if (t != NONE && all.walk.theirs.contains(t)) return NOT;
        int was = all.walk.has;
        all = withWalk(all, all.walk.with(t, 0));
        return was;
    }

    int count(int what) {
        Walk w = all.walk;
        return new int[] {all.things.size(), all.people.size(), w.at, w.has, w.n, w.mind, all.heed, all.well,
            w.changes, all.past.size()}[what];
    }

    int heed(int v) {
        if (!in(v, 0, 99)) return BAD;
        int was = all.heed;
        all = withHeed(all, v);
        return was;
    }

    int well(int m) {
        if (m != NONE && !in(m, 0, 11)) return BAD;
        int was = all.well;
        all = new All(all.things, all.people, all.heed, m, all.walk, all.past);
        return was;
    }

    int type(int letter) {
        if (!in(letter, 32, 126)) return BAD;
        if (tape.length() == 120) return FULL;
        tape += (char) letter;
        return tape.length();
    }

    // A ROAD: letters and blanks by one pattern, numbers and digits looked at behind it.
    static final String THING = " *[pbum] *\\d+(?: *l *\\d+)?(?: *c *\\d+)?";
    static final String PERSON = " *\\d+(?: *= *\\d)?(?: *\\+ *\\d+)?";
    static final Pattern ROAD = Pattern.compile(THING + "(?: *," + THING + "){0,9}"
        + "(?: *;" + PERSON + "(?: *," + PERSON + "){0,7})?(?: *; *= *\\d)? *");
    static final Pattern TOKEN = Pattern.compile("\\d+|[^ ]");

    /** The first place at which no ROAD can go on by its letters alone, or -1. */
    static int brokenAt(String text) {
        for (int k = 1; k <= text.length(); k++) {
            Matcher m = ROAD.matcher(text.substring(0, k));
            if (!m.matches() && !m.hitEnd()) return k - 1;
        }
        return ROAD.matcher(text).matches() ? -1 : text.length();
    }

    int road() {
        String text = tape;
        tape = "";
        int broken = brokenAt(text);
        String sound = broken < 0 ? text : text.substring(0, broken);
        List<Thing> things = new ArrayList<>();
        List<Person> people = new ArrayList<>();
        List<Integer> theirs = new ArrayList<>();
        int part = 0, his = NONE;
        char before = 0;
        Matcher m = TOKEN.matcher(sound);
        while (m.find()) {
            String token = m.group();
            char c = token.charAt(0);
            int at = m.start();
            if (Character.isDigit(c)) {
                // A digit behind = is one letter; the pattern has seen to what stands behind it.
                long v = token.length() > 6 ? Long.parseLong(token.replaceFirst("^0+(?=.)", "").substring(0,
                    Math.min(9, token.replaceFirst("^0+(?=.)", "").length()))) : Long.parseLong(token);
                long most = "pbum".indexOf(before) >= 0 ? 99 : before == 'l' || before == 'c' ? 30 : before == '+' ? 20
                    : before == '=' ? things.size() - 1 : 11;
                if (v > most) return -20 - at;
                int i = (int) v;
                int last = things.size() - 1, lastPerson = people.size() - 1;
                if (before == '=') {
                    if (theirs.contains(i)) return -20 - at;
                    if (part == 1 && lastPerson >= 0 && !hisTurn(sound, at)) theirs.set(lastPerson, i);
                    else his = i;
                } else if ("pbum".indexOf(before) >= 0) {
                    things.add(new Thing("pbum".indexOf(before), i, 0, 0));
                } else if (before == 'l') {
                    Thing t = things.get(last);
                    things.set(last, new Thing(t.kind, t.worth, i, t.care));
                } else if (before == 'c') {
                    Thing t = things.get(last);
                    things.set(last, new Thing(t.kind, t.worth, t.load, i));
                } else if (before == '+') {
                    people.set(lastPerson, new Person(people.get(lastPerson).milestone, i));
                } else {
                    people.add(new Person(i, 0));
                    theirs.add(NONE);
                }
            }
            if (c == ';') part++;
            before = c;
        }
        if (broken >= 0) return -20 - broken;
        all = new All(things, people, all.heed, all.well, new Walk(his, 0, 0, 0, all.walk.changes, theirs, NONE), List.of());
        return things.size();
    }

    /** Whether the = ahead of a digit stands right behind a ; */
    static boolean hisTurn(String text, int digit) {
        return text.substring(0, digit).matches("(?s).*; *= *");
    }

    // ---- the road

    static boolean glad(All a, Walk w, int offered, int times) {
        Thing mine = a.things.get(w.has), other = a.things.get(offered);
        int felt = w.mind == 0 ? mine.load(w.n) : mine.care(w.n) * times;
        return felt > other.felt(w.mind, 0) && mine.worth <= other.worth + a.heed;
    }

    static boolean willing(All a, int own, int margin, int given) {
        return a.things.get(given).worth >= a.things.get(own).worth + margin;
    }

    static Walk felt(All a, Walk w, int times) {
        if (w.has == NONE) return w;
        Thing mine = a.things.get(w.has);
        int n = w.n + 1;
        int mind = mine.load(n) >= mine.care(n) * times ? 0 : 1;
        return new Walk(w.has, n, mind, w.at, w.changes, w.theirs, w.refused);
    }

    static Walk milestone(All a, Walk start, int times) {
        Walk w = felt(a, start, times);
        for (int p = 0; p < a.people.size(); p++) {
            int theirs = w.theirs.get(p);
            if (a.people.get(p).milestone != w.at || w.has == NONE || theirs == NONE) continue;
            if (!glad(a, w, theirs, times)) continue;
            if (willing(a, theirs, a.people.get(p).margin, w.has)) {
                w = new Walk(theirs, 0, w.mind, w.at, w.changes + 1, put(w.theirs, p, w.has), w.refused);
            } else if (w.refused == NONE) {
                w = new Walk(w.has, w.n, w.mind, w.at, w.changes, w.theirs, w.at);
            }
        }
        if (a.well == w.at && w.has != NONE && a.things.get(w.has).load(w.n) >= 10) w = w.with(NONE, 0);
        return new Walk(w.has, w.n, w.mind, w.at + 1, w.changes, w.theirs, w.refused);
    }

    static Walk home(All a) {
        Walk w = new Walk(a.walk.has, a.walk.n, a.walk.mind, a.walk.at, 0, a.walk.theirs, NONE);
        while (w.at < 12) w = milestone(a, w, 1);
        return w;
    }

    int go() {
        if (all.walk.at == 12) return NOT;
        List<Walk> past = plus(all.past, all.walk);
        if (past.size() > 8) past.remove(0);
        Walk w = milestone(all, all.walk, 1);
        int changes = w.changes - all.walk.changes;
        all = new All(all.things, all.people, all.heed, all.well, w, past);
        return changes;
    }

    int undo() {
        if (all.past.isEmpty()) return NONE;
        int left = all.past.size() - 1;
        all = new All(all.things, all.people, all.heed, all.well, all.past.get(left), all.past.subList(0, left));
        return left;
    }

    int again() {
        Walk w = all.walk;
        all = withWalk(all, new Walk(w.has, w.n, w.mind, 0, w.changes, w.theirs, w.refused));
        return w.at;
    }

    int glad(int t) {
        if (!isThing(t)) return BAD;
        if (all.walk.has == NONE || all.walk.has == t) return NOT;
        return glad(all, all.walk, t, 1) ? 1 : 0;
    }

    // ---- foretold

    int home(int what) {
        Walk w = home(all);
        return new int[] {w.has, w.changes, w.refused}[what];
    }

    static int worth(All a, int t) {
        return t < 0 ? 0 : a.things.get(t).worth;
    }

    static int lost(All a) {
        return worth(a, a.walk.has) - worth(a, home(a).has);
    }

    int lurk(int t, int what) {
        if (!isThing(t) || !in(what, 0, 1)) return BAD;
        if (owner(t, all.walk) == NONE) return NOT;
        int[] best = null;
        for (int m = 11; m >= all.walk.at; m--) {
            for (int with = 0; with < all.things.size(); with++) {
                if (owner(with, all.walk) != NONE) continue;
                All a = withWalk(withPeople(all, plus(all.people, new Person(m, 0))),
                    withTheirs(all.walk, plus(all.walk.theirs, with)));
                if (home(a).theirs.get(all.people.size()) != t) continue;
                int[] found = {worth(all, with), with, m};
                if (best == null || Arrays.compare(found, best) < 0) best = found;
            }
        }
        return best == null ? NONE : best[what + 1];
    }

    int stand(int p, int what) {
        if (!isPerson(p) || !in(what, 0, 1)) return BAD;
        if (all.walk.at == 12) return NOT;
        int[] best = null;
        for (int m = all.walk.at; m < 12; m++) {
            All a = withPeople(all, put(all.people, p, new Person(m, all.people.get(p).margin)));
            int[] found = {-worth(all, home(a).theirs.get(p)), m};
            if (best == null || Arrays.compare(found, best) < 0) best = found;
        }
        return what == 0 ? best[1] : -best[0];
    }

    /** All rows of choices in order, the first one's not changing ahead of its changing. */
    int sister(int t, int what) {
        if (!isThing(t) || !in(what, 0, 1)) return BAD;
        Walk then = home(all);
        if (owner(t, then) != NONE) return NOT;
        List<Integer> met = new ArrayList<>();
        for (int m = 11; m >= 0; m--) {
            for (int p = all.people.size() - 1; p >= 0; p--) {
                if (all.people.get(p).milestone == m) met.add(p);
            }
        }
        int best = -1, bestSet = 0;
        for (int row = 0; row < 1 << met.size(); row++) {
            int has = t, set = 0;
            boolean can = true;
            for (int k = 0; k < met.size() && can; k++) {
                if ((row >> met.size() - 1 - k & 1) == 0) continue;
                int p = met.get(k), own = then.theirs.get(p);
                can = own != NONE && willing(all, own, all.people.get(p).margin, has);
                if (can) {
                    has = own;
                    set |= 1 << p;
                }
            }
            if (can && worth(all, has) > best) {
                best = worth(all, has);
                bestSet = set;
            }
        }
        return what == 0 ? best : bestSet;
    }

    int meet(int t, int what) {
        if (!isThing(t) || !in(what, 0, 2)) return BAD;
        if (owner(t, all.walk) != NONE || all.walk.has == NONE) return NOT;
        Walk[] both = {all.walk, new Walk(t, 0, 0, 0, 0, List.of(), NONE)};
        int[] heeds = {all.heed, 99};
        boolean wasGlad = true;
        for (int turns = 1; turns <= 200; turns++) {
            int one = (turns - 1) % 2, two = 1 - one;
            both[one] = felt(all, both[one], 1);
            boolean isGlad = glad(withHeed(all, heeds[one]), both[one], both[two].has, 1);
            if (isGlad) {
                int given = both[one].has;
                both[one] = both[one].with(both[two].has, 0);
                both[two] = both[two].with(given, 0);
            }
            if (!isGlad && !wasGlad) return new int[] {turns, both[0].has, both[1].has}[what];
            wasGlad = isGlad;
        }
        return NONE;
    }

    int first(int t) {
        if (!isThing(t)) return BAD;
        int set = 0;
        for (int k = 0; k < all.things.size(); k++) {
            if (owner(k, all.walk) != NONE) continue;
            int n = all.walk.has == NONE ? 0 : all.walk.n;
            if (home(withWalk(all, all.walk.with(k, n))).has == t) set |= 1 << k;
        }
        return set;
    }

    int cheated(int v) {
        if (!in(v, -99, 99)) return BAD;
        int best = NONE, most = Integer.MIN_VALUE;
        for (int h = 99; h >= 0; h--) {
            int lost = lost(withHeed(all, h));
            if (lost <= v && lost >= most) {
                best = h;
                most = lost;
            }
        }
        return best;
    }

    int chance(int t, int what) {
        if (!(t == NONE || isThing(t)) || !in(what, 0, 1)) return BAD;
        int coins = 12 - all.walk.at;
        if (coins > 10) return FULL;
        int ways = 0;
        for (int row = 0; row < 1 << coins; row++) {
            Walk w = all.walk;
            for (int k = 0; k < coins; k++) w = milestone(all, w, 1 + (row >> k & 1));
            if (w.has == t) ways++;
        }
        int common = gcd(ways, 1 << coins);
        return (what == 0 ? ways : 1 << coins) / common;
    }

    static int gcd(int a, int b) {
        return b == 0 ? a : gcd(b, a % b);
    }

    // ---- sheets, as the machine's own rows

    int fault(int sheet, int lane, long i, long n) {
        if (!in(sheet, 0, 3) || !in(lane, 0, 3)) return BAD;
        if (sheets[sheet] == null) return NULL;
        if (lane(sheets[sheet]) != lane) return CAST;
        return i < 0 || n < 0 || i + n > java.lang.reflect.Array.getLength(sheets[sheet]) ? INDEX : 0;
    }

    static int lane(Object row) {
        return row instanceof byte[] ? 0 : row instanceof short[] ? 1 : row instanceof int[] ? 2 : 3;
    }

    long get(int sheet, int i) {
        return java.lang.reflect.Array.getLong(sheets[sheet], i);
    }

    void set(int sheet, int i, long v) {
        Object row = sheets[sheet];
        if (row instanceof byte[] b) b[i] = (byte) v;
        if (row instanceof short[] s) s[i] = (short) v;
        if (row instanceof int[] n) n[i] = (int) v;
        if (row instanceof long[] l) l[i] = v;
    }

    int seen(int sheet, int lane, int i, int n) {
        if (!in(n, 1, 8)) return BAD;
        int fault = fault(sheet, lane, i, 2L * n);
        if (fault < 0) return fault;
        for (int k = 0; k < 2 * n; k++) {
            if (!in(get(sheet, i + k), 0, all.things.size() - 1)) return NOT;
        }
        int minds = 3;
        for (int k = 0; k < n; k++) {
            Thing given = all.things.get((int) get(sheet, i + 2 * k)), got = all.things.get((int) get(sheet, i + 2 * k + 1));
            if (given.load <= got.load) minds &= 2;
            if (given.care <= got.care) minds &= 1;
        }
        return minds;
    }

    int film(int sheet, int lane, int i) {
        int n = 12 - all.walk.at;
        int fault = fault(sheet, lane, i, n);
        if (fault < 0) return fault;
        Walk w = all.walk;
        for (int k = 0; k < n; k++) {
            w = milestone(all, w, 1);
            set(sheet, i + k, w.has);
        }
        return n;
    }

    int deal(int sheet, int lane, int i) {
        int n = all.people.size();
        int fault = fault(sheet, lane, i, n);
        if (fault < 0) return fault;
        List<Integer> dealt = new ArrayList<>();
        for (int k = 0; k < n; k++) {
            long v = get(sheet, i + k);
            if (v >= all.things.size() || v >= 0 && (v == all.walk.has || dealt.contains((int) v))) return NOT;
            dealt.add(v < 0 ? NONE : (int) v);
        }
        all = withWalk(all, withTheirs(all.walk, dealt));
        return n;
    }

    int sheet(int sheet, int lane, int n) {
        if (!in(sheet, 0, 3) || !in(lane, 0, 3) || n > 16) return BAD;
        if (n < 0) return SIZE;
        sheets[sheet] = lane == 0 ? new byte[n] : lane == 1 ? new short[n] : lane == 2 ? new int[n] : new long[n];
        return n;
    }

    int drop(int sheet) {
        if (!in(sheet, 0, 3)) return BAD;
        if (sheets[sheet] == null) return NULL;
        int n = java.lang.reflect.Array.getLength(sheets[sheet]);
        sheets[sheet] = null;
        return n;
    }

    int item(int sheet, int lane, int i, long v) {
        int fault = fault(sheet, lane, i, 1);
        if (fault < 0) return fault;
        set(sheet, i, v);
        return 1;
    }

    int copy(int from, int i, int to, int j, int n) {
        if (!in(from, 0, 3) || !in(to, 0, 3)) return BAD;
        if (sheets[from] == null || sheets[to] == null) return NULL;
        if (lane(sheets[from]) != lane(sheets[to])) return CAST;
        if (fault(from, lane(sheets[from]), i, n) < 0 || fault(to, lane(sheets[to]), j, n) < 0) return INDEX;
        Deque<Long> taken = new ArrayDeque<>();
        for (int k = 0; k < n; k++) taken.add(get(from, i + k));
        for (int k = 0; k < n; k++) set(to, j + k, taken.remove());
        return n;
    }
}
