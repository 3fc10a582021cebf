import java.lang.reflect.InvocationTargetException;
import java.lang.reflect.Method;
import java.util.ArrayList;
import java.util.List;
import java.util.Map;
import java.util.Random;
import java.util.TreeMap;

/** Runs of calls drawn at random (from written seeds), each answered by the class and by PlainRoad alike. */
public final class RandomRuns {
    private static final int RUNS = 1500, CALLS = 512;
    private static final String[] NAMES = {"thing", "of", "felt", "person", "told", "move", "take", "count", "heed",
        "well", "type", "road", "go", "undo", "again", "glad", "home", "lost", "lurk", "stand", "sister", "meet",
        "first", "cheated", "chance", "image", "restore", "seen", "film", "deal", "sheet", "drop", "item", "copy"};
    private static final Map<String, Method> METHODS = new TreeMap<>();
    private static final Map<String, Integer> ANSWERED = new TreeMap<>();
    /** Answers of the rarer kinds: without many of each, the runs would compare little but refusals. */
    private static final String[] OFTEN = {"lurk ok", "lurk -4", "lurk -2", "meet ok", "meet -4", "meet -2", "first ok",
        "stand ok", "sister ok", "sister -2", "cheated ok", "cheated -4", "chance ok", "chance in between", "home -4",
        "seen ok", "film ok", "deal ok", "deal -2", "copy ok", "person ok", "person -2", "person -3", "thing -3",
        "type -3", "undo ok", "restore ok", "road ok", "road -20"};
    private static final int OFTEN_ENOUGH = 60;

    private final Random random;
    private final GladRoad real = new GladRoad();
    private final PlainRoad plain = new PlainRoad();
    private final List<String> log = new ArrayList<>();
    private int calls = 0;

    private RandomRuns(long seed) {
        random = new Random(seed);
    }

    public static void main(String[] args) throws IllegalAccessException {
        for (Method m : GladRoad.class.getDeclaredMethods()) {
            METHODS.put(m.getName(), m);
        }
        for (int seed = 1; seed <= RUNS; seed++) {
            if (!new RandomRuns(seed).run(seed)) {
                System.exit(1);
            }
        }
        if (args.length > 0) {
            System.out.println(ANSWERED);
        }
        for (String answer : OFTEN) {
            if (ANSWERED.getOrDefault(answer, 0) < OFTEN_ENOUGH) {
                System.out.println("too few of '" + answer + "': " + ANSWERED.get(answer));
                System.exit(1);
            }
        }
        System.out.println(RUNS + " random runs are as due");
    }

    private boolean run(int seed) throws IllegalAccessException {
        boolean wild = seed % 5 == 0;
        // Some runs build a road call by call, most begin with one as a text, some only type texts.
        int every = seed % 7 == 0 ? 10 : 400;
        boolean near = seed % 3 == 1;
        while (calls < CALLS) {
            boolean types = calls == 0 ? seed % 3 > 0 : random.nextInt(every) == 0;
            boolean same = !types ? one(wild) : near ? typeRoad(nearRoadText(), every < 100) && foretold()
                : typeRoad(roadText(), every < 100);
            if (!same) {
                System.out.println("seed " + seed + ":");
                log.forEach(System.out::println);
                return false;
            }
        }
        return true;
    }

    private boolean one(boolean wild) throws IllegalAccessException {
        String name = NAMES[random.nextInt(NAMES.length)];
        if (name.equals("restore") && random.nextInt(3) > 0) {
            name = "sheet";
        } else if (name.equals("drop") && random.nextInt(2) > 0) {
            name = "item";
        } else if (name.equals("again") && random.nextInt(6) > 0
            || calls > 100 && List.of("thing", "person", "restore").contains(name) && random.nextInt(8) > 0) {
            name = "go";
        }
        long[] a = new long[METHODS.get(name).getParameterCount()];
        for (int i = 0; i < a.length; i++) {
            a[i] = wild && random.nextInt(3) == 0 ? wildNumber() : number(name, i);
        }
        if (name.equals("item") && !wild) {
            a[3] = random.nextInt(20) == 0 ? random.nextLong() : random.nextInt(13) - 2;
        }
        if (random.nextInt(3) > 0 && List.of("seen", "film", "deal", "item").contains(name)
            && a[0] >= 0 && a[0] < 4 && plain.sheets[(int) a[0]] != null) {
            a[1] = PlainRoad.lane(plain.sheets[(int) a[0]]);
        }
        return answersAlike(name, a);
    }

    private long wildNumber() {
        switch (random.nextInt(5)) {
            case 0:
                return Integer.MIN_VALUE + random.nextInt(3);
            case 1:
                return Integer.MAX_VALUE - random.nextInt(3);
            case 2:
                return random.nextInt();
            case 3:
                return random.nextInt(260) - 130;
            default:
                return random.nextInt(24) - 6;
        }
    }

    /** A number that is mostly one that the call takes. */
    private long number(String name, int i) {
        if (random.nextInt(30) == 0) {
            return random.nextInt(24) - 5;
        }
        switch (name) {
            case "thing":
                return random.nextInt(new int[] {4, 100, 31, 31}[i]);
            case "felt":
                return i == 0 ? thing() : random.nextInt(i == 1 ? 100 : 2);
            case "person":
                return i == 1 ? thingOrNone() : random.nextInt(i == 0 ? 12 : 21);
            case "move":
                return i == 0 ? person() : random.nextInt(12);
            case "take":
                return thingOrNone();
            case "chance":
                return i == 0 ? thingOrNone() : random.nextInt(2);
            case "count":
                return random.nextInt(10);
            case "heed":
                return random.nextInt(3) == 0 ? random.nextInt(100) : 40 + random.nextInt(60);
            case "well":
                return random.nextInt(2) == 0 ? PlainRoad.NONE : random.nextInt(12);
            case "type":
                return 32 + random.nextInt(95);
            case "cheated":
                return random.nextInt(199) - 99;
            case "seen":
                return random.nextInt(new int[] {4, 4, 6, 4}[i]) + (i == 3 ? 1 : 0);
            case "sheet":
                return random.nextInt(new int[] {4, 4, 17}[i]) ;
            case "film":
            case "deal":
            case "item":
                return random.nextInt(new int[] {4, 4, 8, 10}[i]);
            case "copy":
                return random.nextInt(i % 2 == 0 && i < 4 ? 4 : 6);
            case "drop":
                return random.nextInt(4);
            case "home":
                return random.nextInt(3);
            case "told":
            case "stand":
                return i == 0 ? person() : random.nextInt(name.equals("told") ? 3 : 2);
            case "of":
            case "meet":
                return i == 0 ? thing() : random.nextInt(name.equals("of") ? 5 : 3);
            default:
                return i == 0 ? thing() : random.nextInt(2);
        }
    }

    /** Mostly one that there is. */
    private long thing() {
        int things = plain.all.things().size();
        return random.nextInt(things == 0 || random.nextInt(10) == 0 ? 10 : things);
    }

    private long person() {
        int people = plain.all.people().size();
        return random.nextInt(people == 0 || random.nextInt(10) == 0 ? 8 : people);
    }

    private long thingOrNone() {
        return random.nextInt(5) == 0 ? PlainRoad.NONE : thing();
    }

    private boolean typeRoad(String road, boolean faulty) throws IllegalAccessException {
        StringBuilder text = new StringBuilder(road);
        for (int faults = faulty ? random.nextInt(3) : 0; faults > 0 && text.length() > 0; faults--) {
            int at = random.nextInt(text.length());
            char letter = "pbumlc,;=+0123456789  x".charAt(random.nextInt(23));
            switch (random.nextInt(4)) {
                case 0:
                    text.setCharAt(at, letter);
                    break;
                case 1:
                    text.insert(at, letter);
                    break;
                case 2:
                    text.deleteCharAt(at);
                    break;
                default:
                    text.insert(at, ' ');
                    break;
            }
        }
        if (!answersAlike("road")) {
            return false;
        }
        for (int i = 0; i < text.length() && calls < CALLS; i++) {
            if (!answersAlike("type", text.charAt(i))) {
                return false;
            }
        }
        return stillAlike("road");
    }

    private String roadText() {
        StringBuilder s = new StringBuilder();
        int things = 1 + random.nextInt(random.nextInt(3) == 0 ? 11 : 8);
        for (int i = 0; i < things; i++) {
            s.append(i == 0 ? "" : ",").append("pbum".charAt(random.nextInt(4)));
            s.append(random.nextInt(random.nextInt(20) == 0 ? 120 : 100));
            s.append(random.nextInt(4) == 0 ? "" : "l" + random.nextInt(random.nextInt(20) == 0 ? 35 : 31));
            s.append(random.nextInt(4) == 0 ? "" : "c" + random.nextInt(random.nextInt(20) == 0 ? 35 : 31));
        }
        List<Integer> free = new ArrayList<>();
        for (int i = 0; i < things && i < 10; i++) {
            free.add(i);
        }
        int people = random.nextInt(random.nextInt(3) == 0 ? 10 : 6);
        for (int i = 0; i < people; i++) {
            s.append(i == 0 ? ";" : ",").append(random.nextInt(random.nextInt(20) == 0 ? 14 : 12));
            if (!free.isEmpty() && random.nextInt(5) > 0) {
                s.append('=').append(free.remove(random.nextInt(free.size())));
            }
            s.append(random.nextInt(3) > 0 ? "" : "+" + random.nextInt(22));
        }
        if (!free.isEmpty() && random.nextInt(6) > 0) {
            s.append(";=").append(free.remove(random.nextInt(free.size())));
        }
        return s.toString();
    }

    /** THINGS that are much alike and PEOPLE all along the road: much is changed, refused and waited for. */
    private String nearRoadText() {
        StringBuilder s = new StringBuilder();
        int things = 5 + random.nextInt(5), load = 2 + random.nextInt(9);
        List<Integer> free = new ArrayList<>();
        for (int i = 0; i < things; i++) {
            s.append(i == 0 ? "" : ",").append("pbum".charAt(random.nextInt(4))).append(40 + random.nextInt(20));
            s.append('l').append(load + random.nextInt(5)).append('c').append(load / 2 + random.nextInt(load));
            free.add(i);
        }
        int people = 2 + random.nextInt(things - 3);
        for (int i = 0; i < people; i++) {
            int milestone = random.nextInt(3) == 0 ? 11 : 11 * (i + 1) / people;
            s.append(i == 0 ? ";" : ",").append(milestone).append('=').append(free.remove(random.nextInt(free.size())));
        }
        // Eight of them at times: the one who WAITS is a ninth.
        for (int i = random.nextInt(2) == 0 ? 8 : people; i < 8; i++) {
            s.append(',').append(random.nextInt(12));
        }
        return s.append(";=").append(free.remove(random.nextInt(free.size()))).toString();
    }

    /** Some MILESTONES on, what is FORETOLD of each THING and each PERSON. */
    private boolean foretold() throws IllegalAccessException {
        boolean alike = true;
        for (int i = 2 + random.nextInt(3); i > 0; i--) {
            alike = alike && stillAlike("go");
        }
        for (int t = 0; t < plain.all.things().size(); t++) {
            alike = alike && stillAlike("chance", t, 0) && stillAlike("chance", t, 1) && stillAlike("lurk", t, 0)
                && stillAlike("lurk", t, 1) && stillAlike("meet", t, 0) && stillAlike("meet", t, 1)
                && stillAlike("meet", t, 2) && stillAlike("first", t);
        }
        for (int p = 0; p < plain.all.people().size(); p++) {
            alike = alike && stillAlike("stand", p, 0) && stillAlike("stand", p, 1);
        }
        return alike;
    }

    /** One call more, where the object may be asked one more. */
    private boolean stillAlike(String name, long... a) throws IllegalAccessException {
        return calls >= CALLS || answersAlike(name, a);
    }

    private boolean answersAlike(String name, long... a) throws IllegalAccessException {
        calls++;
        Method m = METHODS.get(name);
        Object[] args = new Object[a.length];
        long[] given = new long[a.length];
        for (int i = 0; i < a.length; i++) {
            boolean isLong = m.getParameterTypes()[i] == long.class;
            given[i] = isLong ? a[i] : (int) a[i];
            args[i] = isLong ? (Object) a[i] : (Object) (int) a[i];
        }
        int due = plain.call(name, given);
        String answer;
        try {
            answer = m.invoke(real, args).toString();
        } catch (InvocationTargetException e) {
            answer = e.getCause().toString();
        }
        ANSWERED.merge(name + (due < 0 ? " " + Math.max(due, -20) : " ok"), 1, Integer::sum);
        if (name.equals("chance") && due > 1) {
            ANSWERED.merge("chance in between", 1, Integer::sum);
        }
        log.add(name + java.util.Arrays.toString(a) + " answered " + answer + ", due is " + due);
        return answer.equals(Integer.toString(due));
    }
}
