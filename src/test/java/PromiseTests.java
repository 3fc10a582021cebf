/** For each promise of the document: ordinary inputs, the edges that it names, wrong inputs. */
public final class PromiseTests {
    private static final int BAD = -1, NOT = -2, FULL = -3, NONE = -4, NULL = -11, CAST = -12, INDEX = -13, SIZE = -14;
    private static final int MIN = Integer.MIN_VALUE, MAX = Integer.MAX_VALUE;
    private static final String HANS = "u90l25c2,b70l2c9,m50l3c6,b30l4c8,p10l5c5,u1l12,p60l1c1;"
        + "0=1,1=2+5,3=3,4=4+20,6=5;=0";
    private static int wrong = 0;
    private static int calls = 0;

    private static void due(int promise, String what, int got, int want) {
        calls++;
        if (got != want) {
            wrong++;
            System.out.println("promise " + promise + ": " + what + " answered " + got + ", due is " + want);
        }
    }

    private static int road(GladRoad x, String text) {
        for (int i = 0; i < text.length(); i++) {
            x.type(text.charAt(i));
        }
        return x.road();
    }

    private static GladRoad on(String text) {
        GladRoad x = new GladRoad();
        int things = road(x, text);
        if (things < 1) {
            wrong++;
            System.out.println("'" + text + "' was no road: " + things);
        }
        return x;
    }

    private static void go(GladRoad x, int milestones) {
        for (int i = 0; i < milestones; i++) {
            x.go();
        }
    }

    public static void main(String[] args) {
        newObject();
        things();
        people();
        he();
        texts();
        textFaults();
        milestones();
        well();
        undone();
        glad();
        foretold();
        lurking();
        standing();
        sisters();
        meeting();
        firsts();
        cheating();
        chances();
        images();
        seen();
        filming();
        dealing();
        sheets();
        System.out.println(wrong == 0 ? calls + " answers are as due" : wrong + " answers are not as due");
        System.exit(wrong == 0 ? 0 : 1);
    }

    private static void newObject() {
        GladRoad x = new GladRoad();
        int[] counts = {0, 0, 0, NONE, 0, 0, 99, NONE, 0, 0};
        for (int i = 0; i < counts.length; i++) {
            due(1, "count(" + i + ")", x.count(i), counts[i]);
        }
        due(1, "home(0)", x.home(0), NONE);
        due(1, "lost()", x.lost(), 0);
        due(1, "restore()", x.restore(), NONE);
        due(1, "undo()", x.undo(), NONE);
        for (int s = 0; s < 4; s++) {
            due(1, "drop(" + s + ")", x.drop(s), NULL);
        }
        due(1, "an empty tape", x.road(), -20);
    }

    private static void things() {
        GladRoad x = new GladRoad();
        int[][] bad = {{-1, 0, 0, 0}, {4, 0, 0, 0}, {0, -1, 0, 0}, {0, 100, 0, 0}, {0, 0, -1, 0}, {0, 0, 31, 0},
            {0, 0, 0, -1}, {0, 0, 0, 31}, {MIN, MAX, MAX, MAX}};
        for (int[] b : bad) {
            due(2, "thing with a bad number", x.thing(b[0], b[1], b[2], b[3]), BAD);
        }
        due(2, "count of things", x.count(0), 0);
        for (int kind = 0; kind < 4; kind++) {
            due(2, "thing " + kind, x.thing(kind, 90 + kind, 20 + kind, 10 + kind), kind);
        }
        for (int kind = 0; kind < 4; kind++) {
            due(3, "kind", x.of(kind, 0), kind);
            due(3, "worth", x.of(kind, 1), 90 + kind);
            due(3, "load", x.of(kind, 2), 20 + kind);
            due(3, "care", x.of(kind, 3), 10 + kind);
            due(3, "who", x.of(kind, 4), NONE);
        }
        due(3, "of(4, 0)", x.of(4, 0), BAD);
        due(3, "of(-1, 0)", x.of(-1, 0), BAD);
        due(3, "of(NONE, 4)", x.of(NONE, 4), BAD);
        due(3, "of(0, 5)", x.of(0, 5), BAD);
        due(3, "of(0, -1)", x.of(0, -1), BAD);
        x.take(2);
        x.person(3, 1, 0);
        due(3, "he has it", x.of(2, 4), 8);
        due(3, "a person has it", x.of(1, 4), 0);
        int[][] felt = {{0, 99, 20, 10}, {1, 0, 21, 11}, {1, 99, 21, 110}, {2, 99, 220, 12}, {3, 0, 23, 13},
            {3, 2, 23, 15}, {3, 3, 23, 21}, {3, 99, 23, 117}};
        for (int[] f : felt) {
            due(4, "felt load of " + f[0] + " behind " + f[1], x.felt(f[0], f[1], 0), f[2]);
            due(4, "felt care of " + f[0] + " behind " + f[1], x.felt(f[0], f[1], 1), f[3]);
        }
        int[][] badFelt = {{4, 0, 0}, {-1, 0, 0}, {0, -1, 0}, {0, 100, 0}, {0, 0, -1}, {0, 0, 2}};
        for (int[] b : badFelt) {
            due(4, "felt with a bad number", x.felt(b[0], b[1], b[2]), BAD);
        }
        for (int i = 4; i < 10; i++) {
            due(2, "edges", x.thing(0, i % 2 == 0 ? 0 : 99, i % 2 == 0 ? 0 : 30, i % 2 == 0 ? 0 : 30), i);
        }
        due(2, "an eleventh", x.thing(0, 0, 0, 0), FULL);
        due(2, "a bad eleventh", x.thing(0, 100, 0, 0), BAD);
        x.go();
        x.thing(0, 0, 0, 0);
        due(2, "a refused one leaves what may be undone", x.count(9), 1);
    }

    private static void people() {
        GladRoad x = on("p1,p2,p3");
        x.take(2);
        int[][] bad = {{-1, 0, 0}, {12, 0, 0}, {0, 3, 0}, {0, -1, 0}, {0, -5, 0}, {0, 0, -1}, {0, 0, 21}};
        for (int[] b : bad) {
            due(5, "person with a bad number", x.person(b[0], b[1], b[2]), BAD);
        }
        due(5, "what he has", x.person(0, 2, 0), NOT);
        due(5, "person(11, 1, 20)", x.person(11, 1, 20), 0);
        due(5, "what a person has", x.person(0, 1, 0), NOT);
        due(5, "with nothing", x.person(0, NONE, 0), 1);
        due(6, "told(0, 0)", x.told(0, 0), 11);
        due(6, "told(0, 1)", x.told(0, 1), 1);
        due(6, "told(0, 2)", x.told(0, 2), 20);
        due(6, "told(1, 1)", x.told(1, 1), NONE);
        due(6, "told(0, 3)", x.told(0, 3), BAD);
        due(6, "told(0, -1)", x.told(0, -1), BAD);
        due(6, "told(2, 0)", x.told(2, 0), BAD);
        due(6, "told(-1, 0)", x.told(-1, 0), BAD);
        due(7, "move(0, 4)", x.move(0, 4), 11);
        due(7, "where it is now", x.told(0, 0), 4);
        due(7, "move(0, 12)", x.move(0, 12), BAD);
        due(7, "move(0, -1)", x.move(0, -1), BAD);
        due(7, "move(2, 0)", x.move(2, 0), BAD);
        due(7, "move(-1, 0)", x.move(-1, 0), BAD);
        due(7, "where it stayed", x.told(0, 0), 4);
        for (int i = 2; i < 8; i++) {
            due(5, "person " + i, x.person(i, NONE, 0), i);
        }
        due(5, "a ninth", x.person(0, 0, 0), FULL);
        due(5, "a ninth with what is had", x.person(0, 1, 0), NOT);
        due(5, "a bad ninth", x.person(12, 1, 0), BAD);
        x.go();
        x.person(0, 0, 0);
        due(5, "a refused one leaves what may be undone", x.count(9), 1);
        due(7, "move(7, 11)", x.move(7, 11), 7);
        due(7, "where it is now", x.told(7, 0), 11);
    }

    private static void he() {
        GladRoad x = on("b9,p2,p3;5=1");
        due(8, "take(3)", x.take(3), BAD);
        due(8, "take(-1)", x.take(-1), BAD);
        due(8, "take(1)", x.take(1), NOT);
        due(8, "take(0)", x.take(0), NONE);
        x.go();
        due(9, "n", x.count(4), 1);
        due(9, "mind", x.count(5), 1);
        due(9, "ahead", x.count(2), 1);
        due(8, "take what he has", x.take(0), 0);
        due(8, "n is 0 then", x.count(4), 0);
        due(8, "his mind stays", x.count(5), 1);
        due(8, "take(2)", x.take(2), 0);
        due(8, "take(NONE)", x.take(NONE), 2);
        due(8, "he has nothing", x.count(3), NONE);
        due(8, "nobody has it", x.of(2, 4), NONE);
        due(9, "count(10)", x.count(10), BAD);
        due(9, "count(-1)", x.count(-1), BAD);
        due(9, "things", x.count(0), 3);
        due(9, "people", x.count(1), 1);
        due(10, "heed(0)", x.heed(0), 99);
        due(10, "heed(100)", x.heed(100), BAD);
        due(10, "heed(-1)", x.heed(-1), BAD);
        due(10, "heed(99)", x.heed(99), 0);
        due(10, "heed is", x.count(6), 99);
        due(11, "well(11)", x.well(11), NONE);
        due(11, "well(12)", x.well(12), BAD);
        due(11, "well(-1)", x.well(-1), BAD);
        due(11, "well(0)", x.well(0), 11);
        due(11, "the well is", x.count(7), 0);
        due(11, "well(NONE)", x.well(NONE), 0);
        due(11, "the well is", x.count(7), NONE);
    }

    private static void texts() {
        GladRoad x = new GladRoad();
        due(12, "type(31)", x.type(31), BAD);
        due(12, "type(127)", x.type(127), BAD);
        due(12, "type(65536 + 'p')", x.type(65536 + 'p'), BAD);
        for (int i = 1; i <= 120; i++) {
            due(12, "type " + i, x.type(i % 2 == 0 ? 32 : 126), i);
        }
        due(12, "a letter too many", x.type('p'), FULL);
        due(12, "a bad letter too many", x.type(31), BAD);
        due(13, "what was typed", x.road(), -20);
        due(13, "the tape is empty then", x.type('p'), 1);
        x.type('1');
        due(13, "road()", x.road(), 1);
        due(13, "the tape is empty then", x.type('p'), 1);
        due(13, "road()", x.road(), -21);

        due(13, "all parts", road(x, "p0l0c0,b99l30c30,u7c3,m8l4;11=3+20,0+5,3=0;=2"), 4);
        int[][] of = {{0, 0, 0, 0, 2}, {1, 99, 30, 30, NONE}, {2, 7, 0, 3, 8}, {3, 8, 4, 0, 0}};
        for (int t = 0; t < 4; t++) {
            for (int what = 0; what < 5; what++) {
                due(13, "of(" + t + ", " + what + ")", x.of(t, what), of[t][what]);
            }
        }
        int[][] told = {{11, 3, 20}, {0, NONE, 5}, {3, 0, 0}};
        for (int p = 0; p < 3; p++) {
            for (int what = 0; what < 3; what++) {
                due(13, "told(" + p + ", " + what + ")", x.told(p, what), told[p][what]);
            }
        }
        due(13, "blanks", road(x, "  p 0 l 1 c 2 , b3 ; 4 = 1 + 5 , 06 ; = 0  "), 2);
        due(13, "load", x.of(0, 2), 1);
        due(13, "care", x.of(0, 3), 2);
        due(13, "margin", x.told(0, 2), 5);
        due(13, "milestone", x.told(1, 0), 6);
        due(13, "his", x.count(3), 0);
        due(13, "people left out", road(x, "p1,p2;=1"), 2);
        due(13, "no people", x.count(1), 0);
        due(13, "his", x.count(3), 1);
        due(13, "ten and eight", road(x, "p0,p1,p2,p3,p4,p5,p6,p7,p8,p9;0=0,0=1,0=2,0=3,0=4,0=5,0=6,0=7;=9"), 10);
        due(13, "eight", x.count(1), 8);
        due(13, "a zero ahead", road(x, "p0000000000000099l00030"), 1);
        due(13, "worth", x.of(0, 1), 99);
        x.thing(0, 1, 0, 0);
        x.take(0);
        x.well(5);
        x.heed(7);
        x.person(0, 1, 0);
        go(x, 3);
        due(13, "changes", x.count(8), 0);
        due(13, "a fault", road(x, "p1;"), -23);
        int[] stay = {2, 1, 3, 0, 3, 0, 7, 5, 0, 3};
        for (int i = 0; i < stay.length; i++) {
            due(13, "all stays: count(" + i + ")", x.count(i), stay[i]);
        }
        x.take(NONE);
        road(x, "b1;=0");
        x.go();
        due(13, "a mind of care", x.count(5), 1);
        due(13, "a new road", road(x, "b1"), 1);
        int[] fresh = {1, 0, 0, NONE, 0, 0, 7, 5, 0, 0};
        for (int i = 0; i < fresh.length; i++) {
            due(13, "all is new: count(" + i + ")", x.count(i), fresh[i]);
        }
    }

    private static void textFaults() {
        Object[][] faults = {{"", 0}, {"   ", 3}, {"x", 0}, {"  x", 2}, {"p", 1}, {"p ", 2}, {"pp", 1}, {"p1p", 2},
            {"p100", 1}, {"p 100", 2}, {"p99999999999999999999", 1}, {"p1 0", 3}, {"p1l", 3}, {"p1l31", 3},
            {"p1lc2", 3}, {"p1c2l3", 4}, {"p1c31", 3}, {"p1l2l3", 4}, {"p1,", 3}, {"p1,,", 3}, {"p1,;", 3},
            {"p1;", 3}, {"p1; ", 4}, {"p1;;", 3}, {"p1;x", 3}, {"p1;12", 3}, {"p1;1 2", 5}, {"p1;0=", 5},
            {"p1;0=1", 5}, {"p1;0= 1", 6}, {"p1;0=x", 5}, {"p1;0=:", 5}, {"p1;0=00", 6}, {"p1;0=0,1=0", 9},
            {"p1;0+", 5}, {"p1;0+21", 5}, {"p1;0+1=0", 6}, {"p1;0,", 5}, {"p1;0,=0", 5}, {"p1;0;", 5},
            {"p1;0;0", 5}, {"p1;0;=", 6}, {"p1;0;=1", 6}, {"p1;0=0;=0", 8}, {"p1;=", 4}, {"p1;=1", 4},
            {"p1;=0;", 5}, {"p1;=0;0", 5}, {"p1;=0,", 5}, {"p1;=00", 5}, {"P1", 0}, {"p-1", 1},
            {"p0,p1,p2,p3,p4,p5,p6,p7,p8,p9,p1", 29}, {"p0;0,0,0,0,0,0,0,0,0", 18}};
        for (Object[] f : faults) {
            GladRoad x = on("b5,b6;3=0;=1");
            due(13, "the fault of '" + f[0] + "'", road(x, (String) f[0]), -20 - (Integer) f[1]);
            due(13, "things stay", x.count(0), 2);
            due(13, "people stay", x.told(0, 1), 0);
            due(13, "his stays", x.count(3), 1);
            due(13, "the tape is empty", x.type('p'), 1);
        }
    }

    private static void milestones() {
        GladRoad x = on(HANS);
        int[] changes = {1, 1, 0, 0, 1, 0, 0, 0, 0, 0, 0, 0};
        int[] has = {1, 2, 2, 2, 4, 4, 4, 4, 4, 4, 4, 4};
        int[] n = {0, 0, 1, 2, 0, 1, 2, 3, 4, 5, 6, 7};
        int[] mind = {0, 1, 1, 1, 1, 0, 0, 0, 0, 0, 0, 0};
        for (int i = 0; i < 12; i++) {
            due(14, "go()", x.go(), changes[i]);
            due(14, "what he has", x.count(3), has[i]);
            due(14, "n", x.count(4), n[i]);
            due(14, "mind", x.count(5), mind[i]);
            due(14, "ahead", x.count(2), i + 1);
        }
        due(14, "go() at home", x.go(), NOT);
        due(14, "changes so far", x.count(8), 3);
        due(14, "who has his first", x.of(0, 4), 0);
        due(14, "and his last but one", x.of(2, 4), 3);
        due(16, "again()", x.again(), 12);
        due(16, "ahead of 0", x.count(2), 0);
        due(16, "n stays", x.count(4), 7);
        due(16, "changes stay", x.count(8), 3);
        due(16, "what may be undone stays", x.count(9), 8);
        due(16, "again()", x.again(), 0);

        x = on("p50l9,p50l8,p50l7,p50l7,p40l1;0=1,0=2,0=3,0;=0");
        due(14, "two at one milestone, one as heavy, one with nothing", x.go(), 2);
        due(14, "the lightest", x.count(3), 2);
        due(14, "the first has his", x.told(0, 1), 0);
        x = on("p50l9,p45l1;0=1+6;=0");
        due(14, "a margin too wide", x.go(), 0);
        x = on("p50l9,p45l1;0=1+5;=0");
        due(14, "a margin that is just met", x.go(), 1);
        x = on("p50l9,p45l1;0=1;=0");
        x.heed(4);
        due(14, "more than heed", x.go(), 0);
        x.again();
        x.heed(5);
        due(14, "heed at most", x.go(), 1);
        x = on("p50l9,p45l1;0=1");
        due(14, "with nothing", x.go(), 0);
        due(14, "n of nothing", x.count(4), 0);
        x = on("p50l5c5,p50l4c9;0=1;=0");
        due(14, "load no less than care", x.go(), 1);
        x = on("p50l5c6,p50l4c9;0=1;=0");
        due(14, "care more than load", x.go(), 0);
        due(14, "changes so far", x.count(8), 0);
        x = on("p50l9,p45l1;0=1;=0");
        x.go();
        road(x, "p1");
        due(13, "changes so far are not told to begin anew", x.count(8), 1);
        x = on("u50l3c6,p50l4,p50l9c1;0=1,0=2;=0");
        due(14, "a burden's second load", x.go(), 1);
        due(14, "by care to that without", x.count(3), 1);
    }

    private static void well() {
        GladRoad x = on("p50l10,u50l7,p50l9,b1l10;=0");
        x.well(1);
        x.go();
        due(14, "no well here", x.count(3), 0);
        due(14, "a change is none", x.go(), 0);
        due(14, "gone", x.count(3), NONE);
        due(14, "nobody has it", x.of(0, 4), NONE);
        due(9, "nothing, had for 0 milestones", x.count(4), 0);
        due(14, "nothing to carry on", x.go(), 0);
        due(9, "nothing stays at 0", x.count(4), 0);
        due(15, "undo behind the well", x.undo(), 2);
        due(15, "nothing still, for 0 milestones", x.count(4), 0);
        due(14, "lost in the well", x.undo(), 1);
        due(14, "undone", x.count(3), 0);
        due(15, "had for 1 again", x.count(4), 1);
        x.take(1);
        x.well(2);
        due(18, "a burden on its second milestone, 11", x.home(0), NONE);
        x.well(1);
        due(18, "a burden on its first milestone, 9", x.home(0), 1);
        x.take(2);
        due(18, "9 is too light", x.home(0), 2);
        x.take(3);
        due(19, "lost in the well", x.lost(), 1);
        x = on("p50l9,p50l1;0=1;=0");
        x.well(0);
        x.go();
        due(14, "the well comes behind people", x.count(3), 1);
        x = on("p50l11,p50l10,p9l1;0=1,1=2;=0");
        x.well(0);
        due(14, "a change, then the well", x.go(), 1);
        due(14, "gone", x.count(3), NONE);
        due(14, "nothing to change", x.go(), 0);
    }

    private static void undone() {
        GladRoad x = on(HANS);
        go(x, 2);
        due(15, "known", x.count(9), 2);
        x.move(0, 7);
        x.heed(1);
        x.well(9);
        x.take(6);
        x.again();
        due(15, "undo()", x.undo(), 1);
        due(15, "where he is", x.count(2), 1);
        due(15, "what he has", x.count(3), 1);
        due(15, "n", x.count(4), 0);
        due(15, "mind", x.count(5), 0);
        due(15, "changes", x.count(8), 1);
        due(15, "what people have", x.told(1, 1), 2);
        due(15, "what people have", x.told(0, 1), 0);
        due(15, "where people are stays", x.told(0, 0), 7);
        due(15, "heed stays", x.count(6), 1);
        due(15, "the well stays", x.count(7), 9);
        due(15, "undo()", x.undo(), 0);
        due(15, "what he had", x.count(3), 0);
        due(15, "undo()", x.undo(), NONE);
        go(x, 12);
        due(15, "eight are known", x.count(9), 8);
        for (int i = 7; i >= 0; i--) {
            due(15, "undo()", x.undo(), i);
            due(15, "ahead", x.count(2), 4 + i);
        }
        due(15, "older ones are lost", x.undo(), NONE);
        due(15, "ahead", x.count(2), 4);
        go(x, 1);
        x.thing(9, 0, 0, 0);
        x.person(12, NONE, 0);
        due(15, "a refused call leaves it", x.count(9), 1);
        x.thing(0, 0, 0, 0);
        due(2, "a new thing leaves nothing", x.undo(), NONE);
        go(x, 1);
        x.person(0, NONE, 0);
        due(5, "a new person leaves nothing", x.undo(), NONE);
        go(x, 1);
        road(x, "p1");
        due(13, "a road leaves nothing", x.undo(), NONE);
        x = on("p50l9,p40l1,p30;0=1;=0");
        x.go();
        x.sheet(0, 0, 1);
        x.item(0, 0, 0, 2);
        x.deal(0, 0, 0);
        x.undo();
        due(15, "what was dealt is undone", x.told(0, 1), 1);
        due(15, "and what he got", x.count(3), 0);
    }

    private static void glad() {
        GladRoad x = on("p50l5c9,p50l4c9,p49l5c8,p40l9c8,b60l4c1;3=1");
        due(17, "glad(5)", x.glad(5), BAD);
        due(17, "glad(-1)", x.glad(-1), BAD);
        due(17, "with nothing", x.glad(0), NOT);
        x.take(0);
        due(17, "what he has", x.glad(0), NOT);
        due(17, "by load", x.glad(1), 1);
        due(17, "by load no less", x.glad(2), 0);
        x.go();
        due(17, "by care no less", x.glad(1), 0);
        due(17, "by care", x.glad(2), 1);
        x.heed(9);
        due(17, "of too little worth", x.glad(3), 0);
        x.heed(10);
        due(17, "by heed at most", x.glad(3), 1);
        x.heed(0);
        due(17, "of more worth", x.glad(4), 1);
        x.take(4);
        go(x, 7);
        due(17, "a beast's care behind 7, 8", x.glad(2), 0);
        x.heed(99);
        x.go();
        due(17, "a beast's care behind 8, 9", x.glad(2), 1);
        due(17, "a beast's care behind 8, 9", x.glad(0), 0);
    }

    private static void foretold() {
        GladRoad x = on(HANS);
        due(18, "home(0)", x.home(0), 4);
        due(18, "home(1)", x.home(1), 3);
        due(18, "home(2)", x.home(2), NONE);
        due(18, "home(3)", x.home(3), BAD);
        due(18, "home(-1)", x.home(-1), BAD);
        due(19, "lost()", x.lost(), 80);
        due(18, "nothing is changed", x.count(3), 0);
        due(18, "nothing is changed", x.told(0, 1), 1);
        go(x, 2);
        due(18, "changes from now on", x.home(1), 1);
        due(19, "lost from now on", x.lost(), 40);
        go(x, 10);
        due(18, "at home", x.home(0), 4);
        due(18, "at home", x.home(1), 0);
        due(18, "at home", x.home(2), NONE);
        due(19, "at home", x.lost(), 0);
        x = on("p50l9,p50l8,p51l7,p52l6;4=2,7=3,5=1;=0");
        due(18, "the first that is refused", x.home(2), 4);
        go(x, 5);
        due(18, "the first from here on", x.home(2), 7);
        go(x, 3);
        due(18, "none from here on", x.home(2), NONE);
        x = on("p50l9,p49l8;4=1+2;=0");
        due(18, "refused by a margin", x.home(2), 4);
        x.heed(0);
        due(18, "not glad for heed, so not refused", x.home(2), NONE);
        x = on("p0l9,p0l8;4=1;=0");
        due(19, "of no worth", x.lost(), 0);
        x.take(NONE);
        due(19, "nothing", x.lost(), 0);
    }

    private static void lurking() {
        GladRoad x = on(HANS);
        due(20, "lurk(1, 0)", x.lurk(1, 0), 6);
        due(20, "lurk(1, 1)", x.lurk(1, 1), 0);
        due(20, "nobody has it", x.lurk(6, 0), NOT);
        due(20, "it can't be", x.lurk(5, 1), NONE);
        due(20, "lurk(7, 0)", x.lurk(7, 0), BAD);
        due(20, "lurk(NONE, 0)", x.lurk(NONE, 0), BAD);
        due(20, "lurk(0, 2)", x.lurk(0, 2), BAD);
        due(20, "lurk(6, -1)", x.lurk(6, -1), BAD);
        due(20, "nothing is changed", x.count(1), 5);
        x = on("p50l9,p30l8,p20l8,p20l7,p10l9;=0");
        due(20, "least worth, of like ones the least", x.lurk(0, 0), 2);
        due(20, "the least milestone", x.lurk(0, 1), 0);
        go(x, 4);
        due(20, "from here on", x.lurk(0, 1), 4);
        x.heed(29);
        due(20, "by his heed", x.lurk(0, 0), 1);
        go(x, 8);
        due(20, "at home", x.lurk(0, 0), NONE);
        x = on("p50l9,p40l8,p30l7;0,0,0,0,0,0,0,2=1;=0");
        due(20, "a ninth, behind all others: ahead of the eighth for his", x.lurk(0, 0), 2);
        due(20, "its milestone", x.lurk(0, 1), 0);
        due(20, "behind the eighth for its", x.lurk(1, 0), 2);
        due(20, "its milestone", x.lurk(1, 1), 2);
        x = on("p20l8,p50l9,p30l8;=1");
        due(20, "with the first thing", x.lurk(1, 0), 0);
        x = on("u50l3,p40l8,p30l6;=0");
        due(20, "where it is heavy enough", x.lurk(0, 1), 1);
    }

    private static void standing() {
        GladRoad x = on(HANS);
        due(21, "stand(2, 0)", x.stand(2, 0), 4);
        due(21, "stand(2, 1)", x.stand(2, 1), 50);
        due(21, "stand(5, 0)", x.stand(5, 0), BAD);
        due(21, "stand(-1, 0)", x.stand(-1, 0), BAD);
        due(21, "stand(0, 2)", x.stand(0, 2), BAD);
        due(21, "stand(0, -1)", x.stand(0, -1), BAD);
        due(21, "nothing is changed", x.told(2, 0), 3);
        x = on("p50l9,p30l8;9=1,3;=0");
        due(21, "the least of like ones", x.stand(0, 0), 0);
        due(21, "worth", x.stand(0, 1), 50);
        due(21, "with nothing", x.stand(1, 0), 0);
        due(21, "with nothing", x.stand(1, 1), 0);
        go(x, 6);
        due(21, "from here on", x.stand(0, 0), 6);
        go(x, 6);
        due(21, "at home", x.stand(0, 0), NOT);
        due(21, "a bad one at home", x.stand(2, 0), BAD);
    }

    private static void sisters() {
        GladRoad x = on(HANS);
        due(22, "sister(6, 0)", x.sister(6, 0), 60);
        due(22, "sister(6, 1)", x.sister(6, 1), 0);
        due(22, "sister(7, 0)", x.sister(7, 0), BAD);
        due(22, "sister(-1, 0)", x.sister(-1, 0), BAD);
        due(22, "sister(6, 2)", x.sister(6, 2), BAD);
        due(22, "sister(6, -1)", x.sister(6, -1), BAD);
        due(22, "he has it then", x.sister(4, 0), NOT);
        due(22, "a person has it then", x.sister(0, 0), NOT);
        x = on("p50l10,p50l1;0=1;=0");
        due(22, "had now and then", x.sister(0, 0), NOT);
        x.move(0, 5);
        x.well(3);
        due(22, "had now, but not then", x.sister(0, 0), 50);
        due(22, "nobody gives more than she has", x.sister(0, 1), 0);
    }

    private static void meeting() {
        GladRoad x = on("p40l5,p50l7,p40l5,p30l5c9;11=2");
        due(23, "meet(4, 0)", x.meet(4, 0), BAD);
        due(23, "meet(0, 3)", x.meet(0, 3), BAD);
        due(23, "meet(0, -1)", x.meet(0, -1), BAD);
        due(23, "he has nothing", x.meet(0, 0), NOT);
        x.take(0);
        due(23, "he has it", x.meet(0, 0), NOT);
        due(23, "a person has it", x.meet(2, 0), NOT);
        due(23, "they do not part", x.meet(1, 0), NONE);
        due(23, "they do not part", x.meet(1, 1), NONE);
        x.heed(9);
        due(23, "one change, then two turns", x.meet(1, 0), 4);
        due(23, "he has", x.meet(1, 1), 1);
        due(23, "the other one has", x.meet(1, 2), 0);
        due(23, "nothing is changed", x.count(3), 0);
        due(23, "once more", x.meet(1, 0), 4);
        due(23, "of care, changed at the second turn, back at the third", x.meet(3, 0), NONE);
        x = on("p40l5,p40l5;=0");
        due(23, "like ones", x.meet(1, 0), 2);
        due(23, "he has", x.meet(1, 1), 0);
        due(23, "the other one has", x.meet(1, 2), 1);
        x = on("m0l5c6,b20l4c7;=0");
        x.heed(12);
        due(23, "who was glad has his new one for 0 too", x.meet(1, 0), 4);
        due(23, "he has", x.meet(1, 1), 1);
        x = on("b40l5,p40l5c6;=0");
        due(23, "neither wants its care", x.meet(1, 0), NONE);
        x = on("b40l5,p40l5c5;=0");
        due(23, "parted at once", x.meet(1, 0), 2);
        go(x, 5);
        due(23, "had for six then, glad of care", x.meet(1, 0), 3);
        due(23, "he has", x.meet(1, 1), 1);
        go(x, 7);
        due(23, "at home", x.meet(1, 0), 3);
    }

    private static void firsts() {
        GladRoad x = on(HANS);
        due(24, "first(6)", x.first(6), 64);
        due(24, "first(4)", x.first(4), 0);
        due(24, "first(7)", x.first(7), BAD);
        due(24, "first(NONE)", x.first(NONE), BAD);
        x = on("p50l9,p40l8,p60l9,p30l9;5=1");
        due(24, "with nothing", x.first(1), 1 | 4);
        due(24, "itself", x.first(3), 8);
        x.take(0);
        due(24, "not what he has", x.first(1), 4);
        x = on("b50,p40c5,b50,p1;8=1;=0");
        due(24, "had long enough", x.first(1), 4);
        go(x, 8);
        due(24, "had as long", x.first(1), 4);
        x.take(NONE);
        due(24, "if he has none: 0", x.first(1), 0);
        go(x, 4);
        due(24, "at home", x.first(2), 4);
        due(24, "at home", x.first(1), 0);
        x = on("u50l10,b50,p40c5;9=2;=0");
        x.well(7);
        go(x, 8);
        due(24, "behind the well: 0, of care too little", x.first(2), 1);
    }

    private static void cheating() {
        GladRoad x = on(HANS);
        due(25, "cheated(100)", x.cheated(100), BAD);
        due(25, "cheated(-100)", x.cheated(-100), BAD);
        due(25, "cheated(99)", x.cheated(99), 40);
        due(25, "cheated(40)", x.cheated(40), 20);
        due(25, "cheated(-1)", x.cheated(-1), NONE);
        due(25, "heed stays", x.count(6), 99);
        x.heed(0);
        due(25, "whatever heed is", x.cheated(80), 40);
        x = on("p50l9,p45l8,p30l7;0=1,1=2;=0");
        due(25, "all", x.cheated(99), 15);
        due(25, "less than all", x.cheated(19), 5);
        due(25, "nothing", x.cheated(4), 0);
        due(25, "none", x.cheated(-1), NONE);
        due(25, "none", x.cheated(-99), NONE);
        x = on("p99l1,p0;0=1;=0");
        due(25, "by the highest heed", x.cheated(99), 99);
        due(25, "by the lowest", x.cheated(98), 0);
    }

    private static void chances() {
        GladRoad x = on("p50l5c4,p10l5c7,p5l5c6,p1;11=1;=0");
        due(26, "twelve left", x.chance(0, 0), FULL);
        due(26, "a bad one ahead of FULL", x.chance(4, 0), BAD);
        due(26, "chance(-1, 0)", x.chance(-1, 0), BAD);
        due(26, "chance(0, 2)", x.chance(0, 2), BAD);
        due(26, "chance(0, -1)", x.chance(0, -1), BAD);
        x.go();
        due(26, "eleven left", x.chance(0, 0), FULL);
        x.go();
        due(26, "ten left", x.chance(0, 0), 1);
        due(26, "half", x.chance(0, 1), 2);
        due(26, "the offered one as ever", x.chance(1, 0), 1);
        due(26, "half", x.chance(1, 1), 2);
        due(26, "0 is 0 of 1", x.chance(2, 0), 0);
        due(26, "0 is 0 of 1", x.chance(2, 1), 1);
        due(26, "0 is 0 of 1", x.chance(NONE, 1), 1);
        due(26, "nothing is changed", x.count(2), 2);
        x = on("p50l5c4,p10l5c7,p5l5c6,p1;10=1,11=2;=0");
        go(x, 9);
        // At 10 twice: CARE 8 for 7; at 11 then 7 (of CARE) or 14 for 6, else 4 (of LOAD) or 8 for 6.
        due(26, "the first stays", x.chance(0, 0), 1);
        due(26, "of four", x.chance(0, 1), 4);
        due(26, "the last", x.chance(2, 0), 3);
        due(26, "of four", x.chance(2, 1), 4);
        due(26, "the middle one", x.chance(1, 0), 0);
        go(x, 3);
        due(26, "at home", x.chance(0, 0), 1);
        due(26, "at home", x.chance(1, 0), 0);
        due(26, "at home", x.chance(0, 1), 1);
        due(26, "at home", x.chance(NONE, 0), 0);
        x = on("p50l5c4,p10l5c8;11=1;=0");
        go(x, 11);
        due(26, "twice is no more than twice", x.chance(1, 0), 0);
        x = on("p50l5c4,p10l5c4,p5l5c6;11=1,11=2;=0");
        go(x, 11);
        due(26, "what he got there is felt twice too", x.chance(2, 0), 1);
        due(26, "by half", x.chance(2, 1), 2);
        x = on("p50l10c9,p10l9c1;4=1;=0");
        x.well(8);
        go(x, 3);
        due(26, "changed ahead of the well by either mind", x.chance(NONE, 0), 0);
        x = on("p50l10c9,p10l10c1;4=1;=0");
        x.well(8);
        go(x, 3);
        due(26, "gone in the well for certain", x.chance(NONE, 0), 1);
        due(26, "gone in the well for certain", x.chance(NONE, 1), 1);
        x = on("p50l10c9,p10l10c10;3=1,2;=0");
        x.well(8);
        go(x, 2);
        due(26, "a person with nothing", x.chance(NONE, 0), 1);
    }

    private static void images() {
        GladRoad x = on(HANS);
        due(28, "none", x.restore(), NONE);
        go(x, 2);
        x.heed(50);
        x.well(7);
        due(27, "image()", x.image(), 1);
        x.sheet(0, 0, 2);
        x.type('p');
        go(x, 3);
        x.move(0, 9);
        x.heed(3);
        x.well(NONE);
        road(x, "7,b1");
        for (int times = 0; times < 2; times++) {
            due(28, "restore()", x.restore(), 1);
            int[] counts = {7, 5, 2, 2, 0, 1, 50, 7, 2, 2};
            for (int i = 0; i < counts.length; i++) {
                due(28, "count(" + i + ")", x.count(i), counts[i]);
            }
            due(28, "where", x.told(0, 0), 0);
            due(28, "whose", x.told(0, 1), 0);
            due(28, "kind", x.of(2, 0), 3);
            due(28, "worth", x.of(0, 1), 90);
            due(28, "undo()", x.undo(), 1);
            due(28, "what he had", x.count(3), 1);
            due(28, "undo()", x.undo(), 0);
            x.take(NONE);
            x.thing(0, 0, 0, 0);
        }
        due(27, "sheets are not kept", x.drop(0), 2);
        x.type('u');
        x.restore();
        due(27, "the tape is not kept", x.type('1'), 2);
        due(27, "an image again", x.image(), 1);
        x.road();
        x.restore();
        due(27, "the later image", x.count(0), 7);
        x = on("p1,p2,p3");
        go(x, 1);
        x.image();
        x.undo();
        x.take(2);
        go(x, 9);
        x.restore();
        due(28, "what may be undone", x.undo(), 0);
        due(28, "is what was then", x.count(3), NONE);
        due(28, "is where he was then", x.count(2), 0);
    }

    private static void seen() {
        GladRoad x = on("p0l5c5,p0l4c5,p0l5c4,p0l4c4,b0l9c9,u0l9c9");
        x.sheet(1, 3, 16);
        int[][] changes = {{0, 3, 3}, {0, 1, 1}, {0, 2, 2}, {0, 0, 0}, {3, 0, 0}, {1, 2, 2}, {4, 5, 0}, {5, 3, 3}};
        for (int[] c : changes) {
            x.item(1, 3, 0, c[0]);
            x.item(1, 3, 1, c[1]);
            due(29, "seen " + c[0] + " for " + c[1], x.seen(1, 3, 0, 1), c[2]);
        }
        x.heed(0);
        for (int i = 0; i < 16; i++) {
            x.item(1, 3, i, i % 2 == 0 ? 0 : 3);
        }
        due(29, "eight", x.seen(1, 3, 0, 8), 3);
        x.item(1, 3, 15, 1);
        due(29, "eight, one by load alone", x.seen(1, 3, 0, 8), 1);
        due(29, "seven", x.seen(1, 3, 0, 7), 3);
        x.item(1, 3, 1, 2);
        due(29, "one by load, one by care", x.seen(1, 3, 0, 8), 0);
        due(29, "from the second on", x.seen(1, 3, 2, 7), 1);
        due(29, "none", x.seen(1, 3, 0, 0), BAD);
        due(29, "nine", x.seen(1, 3, 0, 9), BAD);
        due(29, "a bad sheet", x.seen(4, 3, 0, 1), BAD);
        due(29, "a bad lane", x.seen(1, 4, 0, 1), BAD);
        due(29, "a bad number ahead of nothing", x.seen(0, 3, 0, 0), BAD);
        due(29, "nothing", x.seen(0, 0, 0, 1), NULL);
        due(29, "another lane", x.seen(1, 0, -1, 1), CAST);
        due(29, "ahead of it", x.seen(1, 3, -1, 1), INDEX);
        due(29, "behind it", x.seen(1, 3, 15, 1), INDEX);
        due(29, "far behind it", x.seen(1, 3, MAX, 8), INDEX);
        due(29, "the last", x.seen(1, 3, 14, 1), 1);
        x.item(1, 3, 15, 6);
        due(29, "no thing", x.seen(1, 3, 0, 8), NOT);
        x.item(1, 3, 15, -1);
        due(29, "no thing", x.seen(1, 3, 14, 1), NOT);
        x.item(1, 3, 15, 1L << 32);
        due(29, "no thing, though its low bits are one", x.seen(1, 3, 14, 1), NOT);
        due(29, "no index ahead of no thing", x.seen(1, 3, 15, 1), INDEX);
    }

    /** Looks at the items of a SHEET: no call tells them, so they are dealt on another road. */
    private static void dueItems(int promise, GladRoad x, int sheet, int lane, int... items) {
        x.image();
        road(x, "p0,p0,p0,p0,p0,p0,p0;0");
        for (int i = 0; i < items.length; i++) {
            due(promise, "one item", x.deal(sheet, lane, i), 1);
            due(promise, "item " + i, x.told(0, 1), items[i]);
        }
        due(promise, "an item more", x.deal(sheet, lane, items.length), INDEX);
        x.restore();
    }

    private static void filming() {
        GladRoad x = on(HANS);
        x.well(10);
        due(30, "nothing there", x.film(0, 0, 0), NULL);
        for (int lane = 0; lane < 4; lane++) {
            x.sheet(lane, lane, 16);
            due(30, "film", x.film(lane, lane, 3), 12);
            dueItems(30, x, lane, lane, 0, 0, 0, 1, 2, 2, 2, 4, 4, 4, 4, 4, 4, 4, 4, 0);
        }
        due(30, "at its end", x.film(0, 0, 4), 12);
        due(30, "behind its end", x.film(0, 0, 5), INDEX);
        due(30, "ahead of it", x.film(0, 0, -1), INDEX);
        due(30, "far behind", x.film(0, 0, MAX), INDEX);
        due(30, "another lane", x.film(0, 1, 5), CAST);
        due(30, "a bad lane", x.film(0, 4, 0), BAD);
        due(30, "a bad sheet", x.film(-1, 0, 0), BAD);
        due(30, "nothing is changed", x.count(2), 0);
        x.sheet(0, 0, 2);
        go(x, 10);
        due(30, "two left", x.film(0, 0, 0), 2);
        due(30, "no room for two", x.film(0, 0, 1), INDEX);
        go(x, 2);
        due(30, "at home", x.film(0, 0, 2), 0);
        due(30, "at home, behind its end", x.film(0, 0, 3), INDEX);
        x = on("p1l10;=0");
        x.well(5);
        x.sheet(0, 1, 12);
        x.film(0, 1, 0);
        dueItems(30, x, 0, 1, 0, 0, 0, 0, 0, NONE, NONE, NONE, NONE, NONE, NONE, NONE);
    }

    private static void dealing() {
        GladRoad x = on("p1,p2,p3,p4;0=1,1=2,2;=0");
        due(31, "nothing there", x.deal(0, 0, 0), NULL);
        x.sheet(0, 3, 4);
        long[] items = {9, 3, Long.MIN_VALUE, 1};
        for (int i = 0; i < 4; i++) {
            x.item(0, 3, i, items[i]);
        }
        due(31, "no thing", x.deal(0, 3, 0), NOT);
        due(31, "what was had stays", x.told(0, 1), 1);
        due(31, "from item 1 on", x.deal(0, 3, 1), 3);
        due(31, "told(0, 1)", x.told(0, 1), 3);
        due(31, "told(1, 1)", x.told(1, 1), NONE);
        due(31, "told(2, 1)", x.told(2, 1), 1);
        due(31, "nobody has it", x.of(2, 4), NONE);
        due(31, "behind its end", x.deal(0, 3, 2), INDEX);
        due(31, "ahead of it", x.deal(0, 3, -1), INDEX);
        due(31, "another lane", x.deal(0, 2, 2), CAST);
        due(31, "a bad lane", x.deal(0, -1, 2), BAD);
        due(31, "a bad sheet", x.deal(4, 3, 2), BAD);
        x.item(0, 3, 2, 0);
        due(31, "he has it", x.deal(0, 3, 1), NOT);
        x.item(0, 3, 2, 3);
        due(31, "one comes twice", x.deal(0, 3, 1), NOT);
        x.item(0, 3, 2, 4);
        due(31, "no thing", x.deal(0, 3, 1), NOT);
        x.item(0, 3, 2, (1L << 32) + 2);
        due(31, "no thing, though its low bits are one", x.deal(0, 3, 1), NOT);
        due(31, "what was had stays", x.told(0, 1), 3);
        x.take(NONE);
        x.item(0, 3, 2, 0);
        due(31, "he has it no more", x.deal(0, 3, 1), 3);
        due(31, "told(1, 1)", x.told(1, 1), 0);
    }

    private static void sheets() {
        GladRoad x = on("p0,p0;0");
        due(32, "a bad sheet", x.sheet(4, 0, 0), BAD);
        due(32, "a bad sheet", x.sheet(-1, 0, -1), BAD);
        due(32, "a bad lane", x.sheet(0, 4, 0), BAD);
        due(32, "a bad lane", x.sheet(0, -1, 0), BAD);
        due(32, "17 items", x.sheet(0, 0, 17), BAD);
        due(32, "-1 items", x.sheet(0, 0, -1), SIZE);
        due(32, "few items", x.sheet(0, 0, MIN), SIZE);
        due(32, "refused", x.drop(0), NULL);
        due(32, "16 items", x.sheet(0, 0, 16), 16);
        due(33, "drop(0)", x.drop(0), 16);
        due(33, "drop(0)", x.drop(0), NULL);
        due(33, "drop(4)", x.drop(4), BAD);
        due(33, "drop(-1)", x.drop(-1), BAD);
        due(32, "no items", x.sheet(3, 3, 0), 0);
        due(34, "of none", x.item(3, 3, 0, 1), INDEX);
        due(33, "drop(3)", x.drop(3), 0);
        int[] bits = {8, 16, 32, 64};
        for (int lane = 0; lane < 4; lane++) {
            x.sheet(2, lane, 2);
            long v = lane == 3 ? -1L : (1L << bits[lane]) + 1;
            due(34, "item", x.item(2, lane, 1, v), 1);
            dueItems(34, x, 2, lane, 0, lane == 3 ? NONE : 1);
            due(34, "the lowest below 0", x.item(2, lane, 1, 1L << bits[lane] - 1), 1);
            dueItems(34, x, 2, lane, 0, NONE);
            due(34, "another lane", x.item(2, (lane + 1) % 4, 9, 0), CAST);
            due(34, "behind its end", x.item(2, lane, 2, 0), INDEX);
            due(34, "ahead of it", x.item(2, lane, -1, 0), INDEX);
        }
        due(34, "a bad sheet", x.item(4, 0, 0, 0), BAD);
        due(34, "a bad lane", x.item(2, 4, 0, 0), BAD);
        due(34, "nothing there", x.item(3, 0, 0, 0), NULL);
        x.item(2, 3, 0, 1);
        x.sheet(2, 3, 2);
        dueItems(32, x, 2, 3, 0, 0);
        copies();
    }

    private static void copies() {
        GladRoad x = new GladRoad();
        x.sheet(0, 1, 6);
        for (int i = 0; i < 6; i++) {
            x.item(0, 1, i, i);
        }
        due(35, "nothing there", x.copy(0, 0, 1, 0, 1), NULL);
        due(35, "nothing here", x.copy(1, 9, 0, 0, 1), NULL);
        due(35, "a bad one ahead of nothing", x.copy(1, 0, 4, 0, 1), BAD);
        due(35, "a bad one", x.copy(-1, 0, 0, 0, 1), BAD);
        x.sheet(1, 2, 6);
        due(35, "unlike lanes", x.copy(0, 9, 1, 0, 1), CAST);
        due(35, "to the same, behind", x.copy(0, 0, 0, 2, 4), 4);
        dueItems(35, x, 0, 1, 0, 1, 0, 1, 2, 3);
        due(35, "to the same, ahead", x.copy(0, 2, 0, 1, 4), 4);
        dueItems(35, x, 0, 1, 0, 0, 1, 2, 3, 3);
        x.sheet(2, 1, 3);
        due(35, "to another", x.copy(0, 2, 2, 1, 2), 2);
        dueItems(35, x, 2, 1, 0, 1, 2);
        int[][] out = {{-1, 0, 1}, {0, -1, 1}, {0, 0, -1}, {0, 0, 4}, {5, 0, 2}, {0, 2, 2}, {7, 0, 0}, {0, 4, 0},
            {MAX, 0, 1}, {0, MAX, MAX}, {0, 0, MIN}, {MIN, MIN, MIN}};
        for (int[] o : out) {
            due(35, "out of a row", x.copy(0, o[0], 2, o[1], o[2]), INDEX);
        }
        due(35, "none at the ends", x.copy(0, 6, 2, 3, 0), 0);
        x.sheet(3, 1, 2);
        due(35, "to the last sheet", x.copy(0, 2, 3, 0, 2), 2);
        due(35, "from the last sheet", x.copy(3, 0, 2, 0, 2), 2);
        dueItems(35, x, 2, 1, 1, 2, 2);
        due(35, "a bad one", x.copy(4, 0, 0, 0, 1), BAD);
    }
}
