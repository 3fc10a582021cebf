import java.lang.reflect.InvocationTargetException;
import java.lang.reflect.Method;
import java.util.ArrayList;
import java.util.HashMap;
import java.util.List;
import java.util.Map;

/**
 * One object, asked by calls that are written as texts: "thing(0, 99, MAX, NONE)". It refuses to go
 * on behind the 512th call, since what is answered there is free and would test nothing.
 */
final class Caller {
    static final int MOST_CALLS = 512;
    private static final Map<String, Method> METHODS = new HashMap<>();
    private static final Map<String, Long> NAMED = Map.of("NONE", -4L, "MIN", (long) Integer.MIN_VALUE,
        "MAX", (long) Integer.MAX_VALUE, "LEAST", Long.MIN_VALUE, "MOST", Long.MAX_VALUE);

    static {
        for (Method m : GladRoad.class.getDeclaredMethods()) {
            METHODS.put(m.getName(), m);
        }
    }

    private final GladRoad object = new GladRoad();
    private int calls;

    Caller(String... script) {
        follow(script);
    }

    int calls() {
        return calls;
    }

    /** Calls, "go() x3" for three of them, "type abc" for letters, "road abc" for letters and road(). */
    Caller follow(String... script) {
        for (String line : script) {
            if (line.startsWith("type ")) {
                type(line.substring(5));
            } else if (line.startsWith("road ")) {
                mustNotRefuse(line, road(line.substring(5)));
            } else {
                int times = line.indexOf(" x");
                String call = times < 0 ? line : line.substring(0, times);
                for (int i = times < 0 ? 1 : Integer.parseInt(line.substring(times + 2)); i > 0; i--) {
                    mustNotRefuse(call, ask(call));
                }
            }
        }
        return this;
    }

    /** What take, well had before is NONE rightly; any other answer below 0 would spoil a test's beginning. */
    private static void mustNotRefuse(String call, int answer) {
        boolean wasNothing = answer == GladRoad.NONE && (call.startsWith("take") || call.startsWith("well"));
        if (answer < 0 && !wasNothing) {
            throw new IllegalStateException("a test begins with " + call + " -> " + answer);
        }
    }

    void type(String letters) {
        for (int i = 0; i < letters.length(); i++) {
            mustNotRefuse("type", ask("type(" + (int) letters.charAt(i) + ")"));
        }
    }

    int road(String letters) {
        type(letters);
        return ask("road()");
    }

    int ask(String call) {
        calls++;
        if (calls > MOST_CALLS) {
            throw new IllegalStateException("a test asks more than " + MOST_CALLS + " calls: " + call);
        }
        int open = call.indexOf('(');
        Method method = METHODS.get(call.substring(0, open));
        String inside = call.substring(open + 1, call.indexOf(')'));
        String[] given = inside.isEmpty() ? new String[0] : inside.split(", *");
        Object[] arguments = new Object[given.length];
        for (int i = 0; i < given.length; i++) {
            long v = NAMED.containsKey(given[i]) ? NAMED.get(given[i]) : Long.parseLong(given[i]);
            if (method.getParameterTypes()[i] == long.class) {
                arguments[i] = v;
            } else {
                arguments[i] = Math.toIntExact(v);
            }
        }
        try {
            return (Integer) method.invoke(object, arguments);
        } catch (InvocationTargetException e) {
            throw new IllegalStateException(call + " threw " + e.getCause(), e);
        } catch (IllegalAccessException e) {
            throw new IllegalStateException(e);
        }
    }

    /**
     * All that the calls can tell of the object, with its answers: what is now, what may be UNDONE, the
     * IMAGE, THE TAPE, the SHEETS. The object is spent then.
     */
    List<String> everything() {
        List<String> told = new ArrayList<>();
        tellWorld(told);
        tellUndone(told);
        if (tell(told, "restore()") == 1) {
            tellWorld(told);
            tellUndone(told);
        }
        tell(told, "type(32)");
        if (tell(told, "road()") > 0) {
            tellWorld(told);
        }
        tellSheets(told);
        return told;
    }

    private int tell(List<String> told, String call) {
        int answer = ask(call);
        told.add(call + " -> " + answer);
        return answer;
    }

    private void tellWorld(List<String> told) {
        for (int what = 0; what <= 9; what++) {
            tell(told, "count(" + what + ")");
        }
        int things = ask("count(0)"), people = ask("count(1)");
        for (int t = 0; t < things; t++) {
            for (int what = 0; what <= 4; what++) {
                tell(told, "of(" + t + ", " + what + ")");
            }
        }
        for (int p = 0; p < people; p++) {
            for (int what = 0; what <= 2; what++) {
                tell(told, "told(" + p + ", " + what + ")");
            }
        }
    }

    private void tellUndone(List<String> told) {
        int people = ask("count(1)");
        while (tell(told, "undo()") >= 0) {
            for (int what : new int[] {2, 3, 4, 5, 8}) {
                tell(told, "count(" + what + ")");
            }
            for (int p = 0; p < people; p++) {
                tell(told, "told(" + p + ", 1)");
            }
        }
    }

    /** No call tells an item itself: each is dealt to one PERSON on a road of ten THINGS. */
    private void tellSheets(List<String> told) {
        road("p0,p0,p0,p0,p0,p0,p0,p0,p0,p0;0");
        for (int s = 0; s < 4; s++) {
            for (int lane = 0; lane < 4; lane++) {
                for (int i = 0; tell(told, "deal(" + s + ", " + lane + ", " + i + ")") >= GladRoad.NOT; i++) {
                    tell(told, "told(0, 1)");
                }
            }
            tell(told, "drop(" + s + ")");
        }
    }
}
