import java.util.Arrays;

/**
 * One who is glad to change walks a road of twelve milestones; the document ../shared/DOC.md says
 * what each call promises. Words in capitals are the document's terms.
 */
public final class GladRoad {
    public static final int BAD = -1, NOT = -2, FULL = -3, NONE = -4, NULL = -11, CAST = -12, INDEX = -13, SIZE = -14;

    private static final int MOST_THINGS = 10, MOST_PEOPLE = 8, MILESTONES = 12, MOST_UNDONE = 8;
    private static final int MOST_WORTH = 99, MOST_LOAD = 30, MOST_CARE = 30, MOST_MARGIN = 20, MOST_HEED = 99;
    private static final int MOST_FELT_BEHIND = 99, MOST_COINS = 10, MOST_TURNS = 200, MOST_SEEN = 8;
    private static final int BEAST = 1, BURDEN = 2, MILCH = 3;
    private static final int OF_LOAD = 0, OF_CARE = 1;
    private static final int HE = 8;
    private static final int DROWNING_LOAD = 10;
    private static final int MOST_LETTERS = 120, FIRST_FAULT = -20;
    private static final int SHEETS = 4, LANES = 4, MOST_ITEMS = 16;
    private static final int BYTES = 0, SHORTS = 1, INTS = 2;

    private final World now = new World();
    private final World kept = new World();
    private boolean isKept;
    private final Tape tape = new Tape();
    private final Foresight foresight = new Foresight();
    private final Sheet[] sheets = new Sheet[SHEETS];

    public GladRoad() {
        for (int i = 0; i < sheets.length; i++) {
            sheets[i] = new Sheet();
        }
    }

    // ---- 1 things, people, he

    public int thing(int kind, int worth, int load, int care) {
        if (isNot(kind, MILCH) || isNot(worth, MOST_WORTH) || isNot(load, MOST_LOAD) || isNot(care, MOST_CARE)) {
            return BAD;
        }
        if (now.road.thingCount >= MOST_THINGS) {
            return FULL;
        }
        now.known = 0;
        return now.road.addThing(kind, worth, load, care);
    }

    public int of(int thing, int what) {
        if (!now.road.isThing(thing)) {
            return BAD;
        }
        Thing asked = now.road.things[thing];
        switch (what) {
            case 0:
                return asked.kind;
            case 1:
                return asked.worth;
            case 2:
                return asked.load;
            case 3:
                return asked.care;
            case 4:
                return now.road.whoHas(thing, now.trip);
            default:
                return BAD;
        }
    }

    public int felt(int thing, int n, int what) {
        if (!now.road.isThing(thing) || isNot(n, MOST_FELT_BEHIND) || isNot(what, OF_CARE)) {
            return BAD;
        }
        return now.road.things[thing].feltBy(what, n);
    }

    public int person(int milestone, int thing, int margin) {
        if (isNot(milestone, MILESTONES - 1) || isNoThingOrNone(thing) || isNot(margin, MOST_MARGIN)) {
            return BAD;
        }
        if (thing != NONE && isHad(thing)) {
            return NOT;
        }
        if (now.road.personCount >= MOST_PEOPLE) {
            return FULL;
        }
        now.known = 0;
        return now.road.addPerson(milestone, margin, thing, now.trip);
    }

    public int told(int person, int what) {
        if (!now.road.isPerson(person)) {
            return BAD;
        }
        switch (what) {
            case 0:
                return now.road.where[person];
            case 1:
                return now.trip.theirs[person];
            case 2:
                return now.road.margin[person];
            default:
                return BAD;
        }
    }

    public int move(int person, int milestone) {
        if (!now.road.isPerson(person) || isNot(milestone, MILESTONES - 1)) {
            return BAD;
        }
        int before = now.road.where[person];
        now.road.where[person] = milestone;
        return before;
    }

    public int take(int thing) {
        if (isNoThingOrNone(thing)) {
            return BAD;
        }
        int before = now.trip.his;
        if (thing != NONE && thing != before && isHad(thing)) {
            return NOT;
        }
        now.trip.hasNew(thing);
        return before;
    }

    public int count(int what) {
        switch (what) {
            case 0:
                return now.road.thingCount;
            case 1:
                return now.road.personCount;
            case 2:
                return now.trip.ahead;
            case 3:
                return now.trip.his;
            case 4:
                return now.trip.n;
            case 5:
                return now.trip.mind;
            case 6:
                return now.road.heed;
            case 7:
                return now.road.well;
            case 8:
                return now.trip.changes;
            case 9:
                return now.known;
            default:
                return BAD;
        }
    }

    public int heed(int v) {
        if (isNot(v, MOST_HEED)) {
            return BAD;
        }
        int before = now.road.heed;
        now.road.heed = v;
        return before;
    }

    public int well(int milestone) {
        if (milestone != NONE && isNot(milestone, MILESTONES - 1)) {
            return BAD;
        }
        int before = now.road.well;
        now.road.well = milestone;
        return before;
    }

    public int type(int letter) {
        if (letter < ' ' || letter > '~') {
            return BAD;
        }
        if (tape.length >= MOST_LETTERS) {
            return FULL;
        }
        tape.letters[tape.length] = (char) letter;
        tape.length++;
        return tape.length;
    }

    public int road() {
        boolean isRoad = tape.readRoad(now);
        tape.length = 0;
        if (!isRoad) {
            return FIRST_FAULT - tape.place;
        }
        now.road.setFrom(tape.road);
        now.trip.setFrom(tape.trip);
        now.known = 0;
        return now.road.thingCount;
    }

    // ---- the road

    public int go() {
        if (now.trip.ahead >= MILESTONES) {
            return NOT;
        }
        now.remember();
        return now.road.pass(now.trip, 1);
    }

    public int undo() {
        if (now.known <= 0) {
            return NONE;
        }
        now.stepBack();
        return now.known;
    }

    public int again() {
        int before = now.trip.ahead;
        now.trip.ahead = 0;
        return before;
    }

    public int glad(int thing) {
        if (!now.road.isThing(thing)) {
            return BAD;
        }
        if (now.trip.his == NONE || now.trip.his == thing) {
            return NOT;
        }
        return now.road.isGlad(now.trip, thing, now.road.heed, 1) ? 1 : 0;
    }

    // ---- 2 foretold

    public int home(int what) {
        if (isNot(what, 2)) {
            return BAD;
        }
        Trip end = foresight.endOf(now);
        switch (what) {
            case 0:
                return end.his;
            case 1:
                return end.changes - now.trip.changes;
            default:
                return end.refused;
        }
    }

    public int lost() {
        return now.road.worthOf(now.trip.his) - now.road.worthOf(foresight.endOf(now).his);
    }

    public int lurk(int thing, int what) {
        if (!now.road.isThing(thing) || isNot(what, 1)) {
            return BAD;
        }
        if (!isHad(thing)) {
            return NOT;
        }
        int with = foresight.waitFor(thing, now);
        if (with == NONE) {
            return NONE;
        }
        return what == 0 ? with : foresight.milestone;
    }

    public int stand(int person, int what) {
        if (!now.road.isPerson(person) || isNot(what, 1)) {
            return BAD;
        }
        if (now.trip.ahead >= MILESTONES) {
            return NOT;
        }
        int worth = foresight.mostWorthOf(person, now);
        return what == 0 ? foresight.milestone : worth;
    }

    public int sister(int thing, int what) {
        if (!now.road.isThing(thing) || isNot(what, 1)) {
            return BAD;
        }
        if (now.road.whoHas(thing, foresight.endOf(now)) != NONE) {
            return NOT;
        }
        // Whoever is WILLING has a THING of no more WORTH than hers, so no CHANGE ever makes it more:
        // the row without any is a best one, and the first of all rows.
        return what == 0 ? now.road.worthOf(thing) : 0;
    }

    public int meet(int thing, int what) {
        if (!now.road.isThing(thing) || isNot(what, 2)) {
            return BAD;
        }
        if (isHad(thing) || now.trip.his == NONE) {
            return NOT;
        }
        int turns = foresight.turnsWith(thing, now);
        if (turns == NONE || what == 0) {
            return turns;
        }
        return what == 1 ? foresight.trip.his : foresight.other.his;
    }

    public int first(int thing) {
        return now.road.isThing(thing) ? foresight.firstsFor(thing, now) : BAD;
    }

    public int cheated(int v) {
        if (v < -MOST_WORTH || v > MOST_WORTH) {
            return BAD;
        }
        return foresight.heedFor(v, now);
    }

    public int chance(int thing, int what) {
        if (isNoThingOrNone(thing) || isNot(what, 1)) {
            return BAD;
        }
        int coins = MILESTONES - now.trip.ahead;
        if (coins > MOST_COINS) {
            return FULL;
        }
        int upper = foresight.waysTo(thing, now);
        int lower = 1 << coins;
        for (; lower > 1 && upper % 2 == 0; lower /= 2) {
            upper /= 2;
        }
        return what == 0 ? upper : lower;
    }

    public int image() {
        kept.setFrom(now);
        isKept = true;
        return 1;
    }

    public int restore() {
        if (!isKept) {
            return NONE;
        }
        now.setFrom(kept);
        return 1;
    }

    // ---- 3 sheets

    public int seen(int sheet, int lane, int i, int n) {
        if (n < 1 || n > MOST_SEEN) {
            return BAD;
        }
        int fault = rowFault(sheet, lane, i, 2 * n);
        if (fault < 0) {
            return fault;
        }
        long[] items = sheets[sheet].items;
        for (int k = i; k < i + 2 * n; k++) {
            if (items[k] < 0 || items[k] >= now.road.thingCount) {
                return NOT;
            }
        }
        int minds = 3;
        for (int k = i; k < i + 2 * n; k += 2) {
            minds &= now.road.mindsOf((int) items[k], (int) items[k + 1]);
        }
        return minds;
    }

    public int film(int sheet, int lane, int i) {
        int left = MILESTONES - now.trip.ahead;
        int fault = rowFault(sheet, lane, i, left);
        if (fault < 0) {
            return fault;
        }
        foresight.begin(now);
        for (int k = i; k < i + left; k++) {
            foresight.road.pass(foresight.trip, 1);
            sheets[sheet].put(k, foresight.trip.his);
        }
        return left;
    }

    public int deal(int sheet, int lane, int i) {
        int people = now.road.personCount;
        int fault = rowFault(sheet, lane, i, people);
        if (fault < 0) {
            return fault;
        }
        long[] items = sheets[sheet].items;
        if (!canDeal(items, i, people)) {
            return NOT;
        }
        for (int p = 0; p < people; p++) {
            long dealt = items[i + p];
            now.trip.theirs[p] = dealt < 0 ? NONE : (int) dealt;
        }
        return people;
    }

    public int sheet(int sheet, int lane, int n) {
        if (isNot(sheet, SHEETS - 1) || isNot(lane, LANES - 1) || n > MOST_ITEMS) {
            return BAD;
        }
        if (n < 0) {
            return SIZE;
        }
        sheets[sheet].renew(lane, n);
        return n;
    }

    public int drop(int sheet) {
        if (isNot(sheet, SHEETS - 1)) {
            return BAD;
        }
        if (!sheets[sheet].isThere) {
            return NULL;
        }
        sheets[sheet].isThere = false;
        return sheets[sheet].length;
    }

    public int item(int sheet, int lane, int i, long v) {
        int fault = rowFault(sheet, lane, i, 1);
        if (fault < 0) {
            return fault;
        }
        sheets[sheet].put(i, v);
        return 1;
    }

    public int copy(int from, int i, int to, int j, int n) {
        if (isNot(from, SHEETS - 1) || isNot(to, SHEETS - 1)) {
            return BAD;
        }
        Sheet source = sheets[from], target = sheets[to];
        if (!source.isThere || !target.isThere) {
            return NULL;
        }
        if (source.lane != target.lane) {
            return CAST;
        }
        if (!source.hasRange(i, n) || !target.hasRange(j, n)) {
            return INDEX;
        }
        System.arraycopy(source.items, i, target.items, j, n);
        return n;
    }

    // ---- what the calls ask of their arguments

    private static boolean isNot(int v, int most) {
        return v < 0 || v > most;
    }

    private boolean isNoThingOrNone(int thing) {
        return thing != NONE && !now.road.isThing(thing);
    }

    private boolean isHad(int thing) {
        return now.road.whoHas(thing, now.trip) != NONE;
    }

    /** The answer below 0 that is due for so many items of a SHEET from item i on, or 0. */
    private int rowFault(int sheet, int lane, int i, int items) {
        if (isNot(sheet, SHEETS - 1) || isNot(lane, LANES - 1)) {
            return BAD;
        }
        Sheet row = sheets[sheet];
        if (!row.isThere) {
            return NULL;
        }
        if (row.lane != lane) {
            return CAST;
        }
        return row.hasRange(i, items) ? 0 : INDEX;
    }

    private boolean canDeal(long[] items, int from, int people) {
        int dealt = now.road.isThing(now.trip.his) ? 1 << now.trip.his : 0;
        for (int k = from; k < from + people; k++) {
            if (items[k] < 0) {
                continue;
            }
            if (items[k] >= now.road.thingCount) {
                return false;
            }
            int bit = 1 << (int) items[k];
            if ((dealt & bit) != 0) {
                return false;
            }
            dealt |= bit;
        }
        return true;
    }

    private static final class Thing {
        int kind, worth, load, care;

        void set(int newKind, int newWorth, int newLoad, int newCare) {
            kind = newKind;
            worth = newWorth;
            load = newLoad;
            care = newCare;
        }

        /** FELT LOAD or CARE, as a MIND is of, behind n MILESTONES. */
        int feltBy(int mind, int n) {
            if (mind == OF_LOAD) {
                return kind == BURDEN ? load + 2 * n : load;
            }
            if (kind != BEAST && kind != MILCH) {
                return care;
            }
            return kind == MILCH && n >= 3 ? care + n + 5 : care + n;
        }
    }

    /** What a MILESTONE changes, and what UNDONE therefore brings back. */
    private static final class Trip {
        int his = NONE, n, mind, ahead, changes;
        /** The first MILESTONE that REFUSED him since a foretelling began; of no meaning elsewhere, so not copied. */
        int refused = NONE;
        /** What each PERSON has; one place more is for one who waits. */
        final int[] theirs = new int[MOST_PEOPLE + 1];

        void setFrom(Trip t) {
            his = t.his;
            n = t.n;
            mind = t.mind;
            ahead = t.ahead;
            changes = t.changes;
            System.arraycopy(t.theirs, 0, theirs, 0, theirs.length);
        }

        /** Whatever he has anew, nothing too, he had for 0 MILESTONES. */
        void hasNew(int thing) {
            his = thing;
            n = 0;
        }

        /** CHANGES so far are not told to begin anew with a ROAD, so they stay. */
        void setOut() {
            hasNew(NONE);
            mind = OF_LOAD;
            ahead = 0;
        }
    }

    /** What stays as it is while he walks. */
    private static final class Road {
        final Thing[] things = new Thing[MOST_THINGS];
        int thingCount;
        /** MILESTONES and MARGINS of PEOPLE; one place more is for one who waits. */
        final int[] where = new int[MOST_PEOPLE + 1], margin = new int[MOST_PEOPLE + 1];
        int personCount;
        int heed = MOST_HEED, well = NONE;

        Road() {
            for (int t = 0; t < things.length; t++) {
                things[t] = new Thing();
            }
        }

        void setFrom(Road r) {
            for (int t = 0; t < things.length; t++) {
                Thing from = r.things[t];
                things[t].set(from.kind, from.worth, from.load, from.care);
            }
            thingCount = r.thingCount;
            System.arraycopy(r.where, 0, where, 0, where.length);
            System.arraycopy(r.margin, 0, margin, 0, margin.length);
            personCount = r.personCount;
            heed = r.heed;
            well = r.well;
        }

        boolean isThing(int thing) {
            return thing >= 0 && thing < thingCount;
        }

        boolean isPerson(int person) {
            return person >= 0 && person < personCount;
        }

        int addThing(int kind, int worth, int load, int care) {
            if (thingCount >= things.length) {
                return FULL;
            }
            things[thingCount].set(kind, worth, load, care);
            thingCount++;
            return thingCount - 1;
        }

        int addPerson(int milestone, int itsMargin, int thing, Trip t) {
            if (personCount >= where.length) {
                return FULL;
            }
            where[personCount] = milestone;
            margin[personCount] = itsMargin;
            t.theirs[personCount] = thing;
            personCount++;
            return personCount - 1;
        }

        int worthOf(int thing) {
            return isThing(thing) ? things[thing].worth : 0;
        }

        int whoHas(int thing, Trip t) {
            if (t.his == thing) {
                return HE;
            }
            for (int p = 0; p < personCount; p++) {
                if (t.theirs[p] == thing) {
                    return p;
                }
            }
            return NONE;
        }

        boolean isPeopled(int milestone) {
            for (int p = 0; p < personCount; p++) {
                if (where[p] == milestone) {
                    return true;
                }
            }
            return false;
        }

        /** The MILESTONE ahead of him, where CARE of what he has is FELT so many times: how many CHANGES. */
        int pass(Trip t, int careTimes) {
            int before = t.changes;
            if (isThing(t.his)) {
                feelOneMore(t, careTimes);
            }
            for (int p = 0; p < personCount; p++) {
                if (where[p] == t.ahead && isThing(t.his) && isThing(t.theirs[p])) {
                    offer(t, p, careTimes);
                }
            }
            if (well == t.ahead && isThing(t.his) && things[t.his].feltBy(OF_LOAD, t.n) >= DROWNING_LOAD) {
                t.hasNew(NONE);
            }
            t.ahead++;
            return t.changes - before;
        }

        /** He has his THING for one MILESTONE more, and feels it. */
        void feelOneMore(Trip t, int careTimes) {
            t.n++;
            Thing mine = things[t.his];
            boolean isLoad = mine.feltBy(OF_LOAD, t.n) >= mine.feltBy(OF_CARE, t.n) * careTimes;
            t.mind = isLoad ? OF_LOAD : OF_CARE;
        }

        void offer(Trip t, int person, int careTimes) {
            int offered = t.theirs[person];
            if (!isGlad(t, offered, heed, careTimes)) {
                return;
            }
            boolean isWilling = things[t.his].worth >= things[offered].worth + margin[person];
            if (isWilling) {
                t.theirs[person] = t.his;
                t.hasNew(offered);
                t.changes++;
            } else if (t.refused == NONE) {
                t.refused = t.ahead;
            }
        }

        boolean isGlad(Trip t, int offered, int itsHeed, int careTimes) {
            Thing mine = things[t.his], another = things[offered];
            int times = t.mind == OF_CARE ? careTimes : 1;
            return mine.feltBy(t.mind, t.n) * times > another.feltBy(t.mind, 0)
                && mine.worth - another.worth <= itsHeed;
        }

        /** MINDS (a set) by which one is GLAD to give a THING for another, both had for 0 MILESTONES. */
        int mindsOf(int given, int got) {
            int minds = 0;
            for (int mind = OF_LOAD; mind <= OF_CARE; mind++) {
                if (things[given].feltBy(mind, 0) > things[got].feltBy(mind, 0)) {
                    minds |= 1 << mind;
                }
            }
            return minds;
        }
    }

    /** All that an IMAGE keeps. */
    private static final class World {
        final Road road = new Road();
        final Trip trip = new Trip();
        /** What was ahead of the latest MILESTONES, the oldest first. */
        final Trip[] past = new Trip[MOST_UNDONE];
        int known;

        World() {
            for (int i = 0; i < past.length; i++) {
                past[i] = new Trip();
            }
        }

        void setFrom(World w) {
            road.setFrom(w.road);
            trip.setFrom(w.trip);
            known = w.known;
            for (int i = 0; i < known; i++) {
                past[i].setFrom(w.past[i]);
            }
        }

        void remember() {
            if (known >= past.length) {
                loseOldest();
            }
            past[known].setFrom(trip);
            known++;
        }

        void loseOldest() {
            Trip oldest = past[0];
            for (int i = 1; i < past.length; i++) {
                past[i - 1] = past[i];
            }
            past[past.length - 1] = oldest;
            known = past.length - 1;
        }

        void stepBack() {
            if (known > 0) {
                known--;
                trip.setFrom(past[known]);
            }
        }
    }

    /** THE TAPE, and the ROAD that is read from it before it takes the place of the present one. */
    private static final class Tape {
        static final String KIND_LETTERS = "pbum";
        static final char END = 0;

        final char[] letters = new char[MOST_LETTERS];
        int length;
        /** How far it is read; of what can't stand there, its place. */
        int place;
        final Road road = new Road();
        final Trip trip = new Trip();

        /** Reads it in place of what is now: whether it is a ROAD. */
        boolean readRoad(World now) {
            place = 0;
            road.setFrom(now.road);
            trip.setFrom(now.trip);
            road.thingCount = 0;
            road.personCount = 0;
            trip.setOut();
            if (!readThings()) {
                return false;
            }
            boolean goesOn = reads(';');
            if (goesOn && isDigit(next())) {
                if (!readPeople()) {
                    return false;
                }
                goesOn = reads(';');
            }
            if (goesOn && !readHis()) {
                return false;
            }
            return next() == END;
        }

        boolean readThings() {
            for (int i = 1; i <= MOST_THINGS; i++) {
                if (!readThing()) {
                    return false;
                }
                if (i == MOST_THINGS || !reads(',')) {
                    return true;
                }
            }
            return true;
        }

        boolean readThing() {
            int kind = KIND_LETTERS.indexOf(next());
            if (kind < 0) {
                return false;
            }
            place++;
            int worth = readNumber(MOST_WORTH);
            if (worth < 0) {
                return false;
            }
            int load = reads('l') ? readNumber(MOST_LOAD) : 0;
            if (load < 0) {
                return false;
            }
            int care = reads('c') ? readNumber(MOST_CARE) : 0;
            if (care < 0) {
                return false;
            }
            road.addThing(kind, worth, load, care);
            return true;
        }

        boolean readPeople() {
            for (int i = 1; i <= MOST_PEOPLE; i++) {
                if (!readPerson()) {
                    return false;
                }
                if (i == MOST_PEOPLE || !reads(',')) {
                    return true;
                }
            }
            return true;
        }

        boolean readPerson() {
            int milestone = readNumber(MILESTONES - 1);
            if (milestone < 0) {
                return false;
            }
            int thing = NONE;
            if (reads('=')) {
                thing = readFreeThing();
                if (thing < 0) {
                    return false;
                }
            }
            int margin = reads('+') ? readNumber(MOST_MARGIN) : 0;
            if (margin < 0) {
                return false;
            }
            road.addPerson(milestone, margin, thing, trip);
            return true;
        }

        boolean readHis() {
            if (!reads('=')) {
                return false;
            }
            int thing = readFreeThing();
            if (thing < 0) {
                return false;
            }
            trip.his = thing;
            return true;
        }

        /** The next letter behind blanks, which is then at the place. */
        char next() {
            while (place < length && letters[place] == ' ') {
                place++;
            }
            return place < length ? letters[place] : END;
        }

        boolean reads(char letter) {
            if (next() != letter) {
                return false;
            }
            place++;
            return true;
        }

        /** A number up to the most, or BAD, and then the place is that of its first digit. */
        int readNumber(int most) {
            if (!isDigit(next())) {
                return BAD;
            }
            int start = place;
            int number = 0;
            for (; place < length && isDigit(letters[place]); place++) {
                number = Math.min(number * 10 + letters[place] - '0', most + 1);
            }
            if (number > most) {
                place = start;
                return BAD;
            }
            return number;
        }

        /** The digit of a THING that nobody has yet, or BAD. */
        int readFreeThing() {
            int thing = next() - '0';
            if (!road.isThing(thing) || road.whoHas(thing, trip) != NONE) {
                return BAD;
            }
            place++;
            return thing;
        }

        static boolean isDigit(char letter) {
            return letter >= '0' && letter <= '9';
        }
    }

    /** Walks on copies, so that nothing is changed by what is FORETOLD. */
    private static final class Foresight {
        final Road road = new Road();
        final Trip trip = new Trip();
        /** Of another one who meets him. */
        final Trip other = new Trip();
        /** One for each MILESTONE of CHANCE, and what is ahead of the first. */
        final Trip[] forks = new Trip[MOST_COINS + 1];
        /** The MILESTONE that WAIT or STAND has found. */
        int milestone;

        Foresight() {
            for (int i = 0; i < forks.length; i++) {
                forks[i] = new Trip();
            }
        }

        void begin(World now) {
            road.setFrom(now.road);
            trip.setFrom(now.trip);
            trip.refused = NONE;
        }

        void walkHome() {
            for (int m = trip.ahead; m < MILESTONES; m++) {
                road.pass(trip, 1);
            }
        }

        Trip endOf(World now) {
            begin(now);
            walkHome();
            return trip;
        }

        /** With which THING to WAIT, or NONE; the milestone tells where. */
        int waitFor(int thing, World now) {
            int with = NONE;
            for (int t = 0; t < now.road.thingCount; t++) {
                boolean isLess = with == NONE || now.road.worthOf(t) < now.road.worthOf(with);
                if (!isLess || now.road.whoHas(t, now.trip) != NONE) {
                    continue;
                }
                for (int m = now.trip.ahead; m < MILESTONES; m++) {
                    begin(now);
                    int waiting = road.addPerson(m, 0, t, trip);
                    walkHome();
                    if (waiting >= 0 && trip.theirs[waiting] == thing) {
                        with = t;
                        milestone = m;
                        break;
                    }
                }
            }
            return with;
        }

        /** Most WORTH that a PERSON can have by where it STANDS; the milestone tells where. */
        int mostWorthOf(int person, World now) {
            int most = -1;
            for (int m = now.trip.ahead; m < MILESTONES; m++) {
                begin(now);
                road.where[person] = m;
                walkHome();
                int worth = road.worthOf(trip.theirs[person]);
                if (worth > most) {
                    most = worth;
                    milestone = m;
                }
            }
            return most;
        }

        /** How many turns until they part, or NONE; trip and other tell who has what then. */
        int turnsWith(int thing, World now) {
            begin(now);
            other.setOut();
            other.his = thing;
            int notGlad = 0;
            for (int turn = 1; turn <= MOST_TURNS; turn++) {
                boolean isHis = turn % 2 == 1;
                boolean changed = isHis ? takesTurn(trip, other, road.heed) : takesTurn(other, trip, MOST_HEED);
                notGlad = changed ? 0 : notGlad + 1;
                if (notGlad == 2) {
                    return turn;
                }
            }
            return NONE;
        }

        boolean takesTurn(Trip one, Trip another, int itsHeed) {
            road.feelOneMore(one, 1);
            if (!road.isGlad(one, another.his, itsHeed, 1)) {
                return false;
            }
            int given = one.his;
            one.hasNew(another.his);
            another.hasNew(given);
            return true;
        }

        int firstsFor(int thing, World now) {
            int firsts = 0;
            for (int t = 0; t < now.road.thingCount; t++) {
                if (now.road.whoHas(t, now.trip) != NONE) {
                    continue;
                }
                begin(now);
                // Had as long as his; of nothing that is 0 already.
                trip.his = t;
                walkHome();
                if (trip.his == thing) {
                    firsts |= 1 << t;
                }
            }
            return firsts;
        }

        /** The HEED by which he is CHEATED of most, but of no more than v, or NONE. */
        int heedFor(int v, World now) {
            int best = NONE;
            int most = 0;
            for (int h = 0; h <= MOST_HEED; h++) {
                begin(now);
                road.heed = h;
                walkHome();
                int lost = road.worthOf(now.trip.his) - road.worthOf(trip.his);
                if (lost <= v && (best == NONE || lost > most)) {
                    best = h;
                    most = lost;
                }
            }
            return best;
        }

        /** Of all rows of CARES, as ever or twice that, how many bring a THING home. */
        int waysTo(int thing, World now) {
            road.setFrom(now.road);
            forks[0].setFrom(now.trip);
            return waysFrom(0, thing);
        }

        private int waysFrom(int depth, int thing) {
            Trip here = forks[depth];
            if (here.ahead >= MILESTONES || depth + 1 >= forks.length) {
                return here.his == thing ? 1 : 0;
            }
            int ways = waysBehind(depth, thing, 1);
            // Where nobody offers anything, CARE moves no THING, and his MIND is new at the next MILESTONE.
            return road.isPeopled(here.ahead) ? ways + waysBehind(depth, thing, 2) : 2 * ways;
        }

        private int waysBehind(int depth, int thing, int careTimes) {
            forks[depth + 1].setFrom(forks[depth]);
            road.pass(forks[depth + 1], careTimes);
            return waysFrom(depth + 1, thing);
        }
    }

    private static final class Sheet {
        boolean isThere;
        int lane, length;
        final long[] items = new long[MOST_ITEMS];

        void renew(int newLane, int newLength) {
            isThere = true;
            lane = newLane;
            length = newLength;
            Arrays.fill(items, 0);
        }

        boolean hasRange(int i, int n) {
            return i >= 0 && n >= 0 && n <= length && i <= length - n;
        }

        /** Keeps the lowest bits of v that an item of the LANE holds. */
        void put(int i, long v) {
            if (i < 0 || i >= items.length) {
                return;
            }
            switch (lane) {
                case BYTES:
                    items[i] = (byte) v;
                    break;
                case SHORTS:
                    items[i] = (short) v;
                    break;
                case INTS:
                    items[i] = (int) v;
                    break;
                default:
                    items[i] = v;
                    break;
            }
        }
    }
}
