/** A test for each sentence of the document's 'Terms' up to A MILESTONE, and of those that hold for all calls. */
final class TermEdges {
    private static final int BAD = -1, NOT = -2, FULL = -3, NONE = -4, NULL = -11, CAST = -12, INDEX = -13, SIZE = -14;
    private static final String TEN = "p0,p1,p2,p3,p4,p5,p6,p7,p8,p9";
    private static final String[] FULL_ROAD = {"road " + TEN + ";0=0,1=1,2=2,3=3,4=4,5=5,6=6,7=7;=8"};
    private static final String[] AT_HOME = {"road p9l9,p8l8,p7;3=1;=0", "go() x12"};
    private static final String[] ROWS = {"road p1,p2,p3;0=0;=1", "sheet(0, 2, 3)", "item(0, 2, 0, 7)",
        "item(0, 2, 1, 7)", "item(0, 2, 2, 7)", "sheet(1, 0, 3)"};

    private final Edges e;

    TermEdges(Edges e) {
        this.e = e;
    }

    void all() {
        calls512();
        answersBelow0();
        firstOfSeveral();
        firstOfSeveralOfSheets();
        refusedChangesNothing();
        setsAreBits();
        fractions();
        things();
        kinds();
        people();
        hadByTwo();
        he();
        heedAndWell();
        comesToThatAhead();
        mind();
        gladAndWilling();
        inOrder();
        change();
        goneInTheWell();
        aheadOfTheNext();
        sheets();
    }

    private void calls512() {
        e.sentence(Sentences.WHAT_IT_IS, "An object is used for at most 512 calls");
        Caller x = new Caller("thing(3, 9, 1, 1)", "take(0)");
        int n = 0;
        while (x.calls() < Caller.MOST_CALLS - 3) {
            if (x.ask("go()") == NOT) {
                x.ask("again()");
            } else {
                n++;
            }
        }
        e.dues(x, "count(4)", n, "count(5)", 1);
        e.is("calls", x.calls(), 511);
        e.due(x, "count(3)", 0);
    }

    private void answersBelow0() {
        e.sentence(0, "Answers below 0, of several the first that a call names");
        e.is("BAD", GladRoad.BAD, -1);
        e.is("NOT", GladRoad.NOT, -2);
        e.is("FULL", GladRoad.FULL, -3);
        e.is("NONE", GladRoad.NONE, -4);
        e.is("NULL", GladRoad.NULL, -11);
        e.is("CAST", GladRoad.CAST, -12);
        e.is("INDEX", GladRoad.INDEX, -13);
        e.is("SIZE", GladRoad.SIZE, -14);
    }

    private void firstOfSeveral() {
        e.refused(BAD, FULL_ROAD, "thing(4, 0, 0, 0)", "thing(0, 0, 0, 31)");
        e.refused(BAD, FULL_ROAD, "person(12, 0, 0)", "person(0, 10, 0)", "person(0, 0, 21)", "person(0, 8, -1)");
        e.refused(NOT, FULL_ROAD, "person(0, 0, 0)", "person(0, 8, 0)");
        e.refused(FULL, FULL_ROAD, "person(0, 9, 0)", "person(0, NONE, 0)");
        String[] full = new String[120];
        java.util.Arrays.fill(full, "type(112)");
        e.refused(BAD, full, "type(31)", "type(127)");
        e.refused(BAD, Edges.with("road p1"), "glad(1)", "glad(NONE)");
        e.refused(BAD, AT_HOME, "lurk(2, 2)", "lurk(1, -1)", "lurk(3, 0)");
        e.refused(NOT, AT_HOME, "lurk(2, 0)", "lurk(2, 1)");
        e.refused(NONE, AT_HOME, "lurk(0, 0)", "lurk(1, 1)");
        e.refused(BAD, AT_HOME, "stand(1, 0)", "stand(0, 2)");
        e.refused(BAD, AT_HOME, "sister(0, 2)", "sister(1, -1)");
        e.refused(BAD, AT_HOME, "meet(0, 3)", "meet(1, -1)");
        e.refused(BAD, Edges.with("road p1"), "meet(0, 3)", "meet(1, 0)");
        String[] neverPart = {"road p9l9,p9l8,p9;0=2;=0"};
        e.refused(BAD, neverPart, "meet(1, 3)");
        e.refused(NOT, neverPart, "meet(0, 0)", "meet(2, 0)");
        e.refused(NONE, neverPart, "meet(1, 0)");
        e.refused(BAD, AT_HOME, "cheated(-100)");
        e.refused(NONE, AT_HOME, "cheated(-99)");
        e.refused(BAD, FULL_ROAD, "chance(10, 0)", "chance(0, 2)", "chance(-1, 0)");
        e.refused(FULL, FULL_ROAD, "chance(0, 0)");
    }

    private void firstOfSeveralOfSheets() {
        e.refused(BAD, ROWS, "seen(3, 0, 0, 0)", "seen(3, 4, -1, 1)", "seen(0, 1, -1, 9)");
        e.refused(NULL, ROWS, "seen(3, 0, -1, 1)", "seen(2, 3, 16, 8)");
        e.refused(CAST, ROWS, "seen(0, 1, -1, 1)", "seen(0, 0, 3, 1)", "seen(0, 3, 0, 1)");
        e.refused(INDEX, ROWS, "seen(0, 2, 2, 1)", "seen(0, 2, 0, 2)");
        e.refused(NOT, ROWS, "seen(0, 2, 0, 1)");
        e.refused(BAD, ROWS, "film(3, 4, -1)", "film(4, 0, -1)", "film(0, -1, -1)");
        e.refused(NULL, ROWS, "film(3, 0, -1)");
        e.refused(CAST, ROWS, "film(0, 1, -1)", "film(1, 2, 3)");
        e.refused(INDEX, ROWS, "film(0, 2, 0)");
        e.refused(BAD, ROWS, "deal(3, 4, -1)", "deal(-1, 0, 0)", "deal(0, 4, 0)");
        e.refused(NULL, ROWS, "deal(3, 0, -1)");
        e.refused(CAST, ROWS, "deal(0, 1, -1)", "deal(0, 3, 0)");
        e.refused(INDEX, ROWS, "deal(0, 2, 3)", "deal(0, 2, -1)");
        e.refused(NOT, ROWS, "deal(0, 2, 2)");
        e.refused(BAD, ROWS, "sheet(4, 0, -1)", "sheet(0, 4, -1)", "sheet(-1, -1, MIN)");
        e.refused(SIZE, ROWS, "sheet(0, 0, -1)");
        e.refused(BAD, ROWS, "item(3, 4, -1, 0)", "item(4, 0, 3, 0)");
        e.refused(NULL, ROWS, "item(3, 0, -1, 0)");
        e.refused(CAST, ROWS, "item(0, 1, -1, 0)", "item(0, 3, 3, 0)");
        e.refused(INDEX, ROWS, "item(0, 2, -1, 0)", "item(0, 2, 3, 0)");
        e.refused(BAD, ROWS, "copy(3, -1, 4, -1, -1)", "copy(-1, 0, 3, 0, 1)", "copy(0, 0, 4, 0, 1)");
        e.refused(NULL, ROWS, "copy(3, -1, 0, -1, -1)", "copy(0, -1, 3, -1, -1)", "copy(2, 0, 3, 0, 1)");
        e.refused(CAST, ROWS, "copy(0, -1, 1, -1, -1)", "copy(1, 9, 0, 9, 9)");
        e.refused(INDEX, ROWS, "copy(0, -1, 0, 0, 1)");
    }

    private void refusedChangesNothing() {
        e.sentence(0, "What is refused changes nothing, but as told");
        e.refused(BAD, Edges.RICH, "thing(4, 0, 0, 0)", "of(4, 0)", "felt(0, 100, 0)", "person(12, 3, 0)", "told(3, 0)",
            "move(0, 12)", "take(4)", "count(10)", "heed(100)", "well(12)", "type(127)", "glad(4)", "home(3)",
            "lurk(4, 0)", "stand(3, 0)", "sister(4, 0)", "meet(4, 0)", "first(4)", "cheated(100)", "chance(4, 0)",
            "seen(0, 0, 0, 9)", "film(4, 0, 0)", "deal(0, 4, 0)", "sheet(0, 0, 17)", "drop(4)", "item(0, 4, 0, 1)",
            "copy(0, 0, 4, 0, 1)");
        e.refused(NOT, Edges.RICH, "person(0, 1, 0)", "person(0, 2, 0)", "take(0)", "glad(1)", "lurk(3, 0)",
            "sister(0, 0)", "meet(2, 0)");
        e.refused(NULL, Edges.RICH, "seen(3, 0, 0, 1)", "film(3, 0, 0)", "deal(3, 0, 0)", "drop(3)", "item(3, 0, 0, 1)",
            "copy(0, 0, 3, 0, 1)");
        e.refused(CAST, Edges.RICH, "seen(0, 1, 0, 1)", "film(0, 1, 0)", "deal(0, 1, 0)", "item(0, 1, 0, 1)",
            "copy(0, 0, 1, 0, 1)");
        e.refused(INDEX, Edges.RICH, "seen(0, 0, 2, 1)", "film(0, 0, 0)", "deal(0, 0, 1)", "item(0, 0, 3, 1)",
            "copy(0, 0, 0, 1, 3)");
        e.refused(SIZE, Edges.RICH, "sheet(0, 0, -1)");
        e.refused(NOT, Edges.then(Edges.RICH, "go() x9"), "go()", "stand(0, 0)");
        e.refused(NONE, Edges.with("road b9;=0", "heed(3)"), "undo()", "restore()", "cheated(-1)");
        e.refused(FULL, Edges.with("road b9;=0", "go()"), "chance(0, 0)");
        // As told: THE TAPE is empty behind road(), also when it was no ROAD.
        Caller x = new Caller(Edges.then(Edges.RICH, "type x"));
        e.due(x, "road()", -20 - "p7,b8;3=1".length());
        String[] without = Edges.RICH.clone();
        for (int i = 0; i < without.length; i++) {
            without[i] = without[i].startsWith("type ") ? "type " : without[i];
        }
        e.like(x, "behind a fault", without);
    }

    private void setsAreBits() {
        e.sentence(0, "Sets are bits");
        Caller x = new Caller("road p50l9,p0,p0,p0,p0,p40l8,p0,p0,p0,p60l9;5=5", "sheet(0, 0, 2)");
        e.dues(x, "first(5)", 1 << 0 | 1 << 9, "first(0)", 0, "first(1)", 1 << 1, "sister(0, 1)", 0, "sister(9, 1)", 0);
        e.dues(x, "seen(0, 0, 0, 1)", 0, "item(0, 0, 1, 5)", 1, "seen(0, 0, 0, 1)", 1);
    }

    private void fractions() {
        e.sentence(0, "Fractions are in lowest terms");
        // FELT twice, CARE 6 is above LOAD 5, and he changes; as ever it is not, and nobody's LOAD is less.
        Caller x = new Caller("road p9l5c3,p9l5c3,p9l5c3,p9l5c3,p9l5c3,p9l5c3,p9l5c3,p9l5c3,p9l5c3,p9;"
            + "4=1,5=2,6=3,7=4,8=5,9=6,10=7,11=8;=0", "go() x2");
        for (int t = 0; t <= 8; t++) {
            e.due(x, "chance(" + t + ", 0)", 1);
            e.due(x, "chance(" + t + ", 1)", t == 0 ? 256 : 1 << 9 - t);
        }
        e.dues(x, "chance(9, 0)", 0, "chance(9, 1)", 1, "chance(NONE, 0)", 0, "chance(NONE, 1)", 1);
        x = new Caller("road p9l5c4,p8l5c7,p7l5c6;10=1,11=2;=0", "go() x2");
        e.dues(x, "chance(2, 0)", 3, "chance(2, 1)", 4, "chance(0, 0)", 1, "chance(0, 1)", 4, "chance(1, 0)", 0,
            "chance(1, 1)", 1);
        x = new Caller("road p9l5c4,p8l4;10=1;=0", "go() x2");
        e.dues(x, "chance(1, 0)", 1, "chance(1, 1)", 1, "chance(0, 0)", 0, "chance(0, 1)", 1);
    }

    private void things() {
        e.sentence(0, "THINGS 0 .. 9, as they come, have a WORTH (0 .. 99)");
        Caller x = new Caller();
        e.dues(x, "thing(0, 0, 0, 0)", 0, "of(0, 0)", 0, "of(0, 1)", 0, "of(0, 2)", 0, "of(0, 3)", 0);
        e.dues(x, "thing(3, 99, 30, 30)", 1, "of(1, 0)", 3, "of(1, 1)", 99, "of(1, 2)", 30, "of(1, 3)", 30);
        for (int t = 2; t <= 9; t++) {
            e.due(x, "thing(1, " + t + ", 1, 2)", t);
        }
        for (int t = 2; t <= 9; t++) {
            e.due(x, "of(" + t + ", 1)", t);
        }
        e.dues(x, "thing(1, 10, 1, 2)", FULL, "count(0)", 10);
        e.refused(BAD, Edges.RICH, "thing(-1, 0, 0, 0)", "thing(4, 0, 0, 0)", "thing(0, -1, 0, 0)", "thing(0, 100, 0, 0)",
            "thing(0, 0, -1, 0)", "thing(0, 0, 31, 0)", "thing(0, 0, 0, -1)", "thing(0, 0, 0, 31)");
    }

    private void kinds() {
        String[] four = {"road p9l3c4,b9l3c4,u9l3c4,m9l3c4,b0l30c30,u0l30c30,m0l30c30"};
        e.sentence(0, "Behind n MILESTONES with one (0 when one gets it)");
        Caller x = new Caller(four);
        felt(x, 0, 0, 3, 4);
        felt(x, 0, 1, 3, 4);
        felt(x, 0, 99, 3, 4);
        e.dues(x, "take(0)", NONE, "count(4)", 0, "go()", 0, "count(4)", 1, "take(1)", 0, "count(4)", 0);
        e.sentence(0, "Below it 1 BEAST: CARE n more");
        felt(x, 1, 0, 3, 4);
        felt(x, 1, 1, 3, 5);
        felt(x, 1, 2, 3, 6);
        felt(x, 1, 3, 3, 7);
        felt(x, 4, 99, 30, 129);
        e.sentence(0, "2 BURDEN: LOAD twice n more");
        felt(x, 2, 0, 3, 4);
        felt(x, 2, 1, 5, 4);
        felt(x, 2, 3, 9, 4);
        felt(x, 5, 99, 228, 30);
        e.sentence(0, "3 MILCH (below BEAST): CARE as of a BEAST, and 5 more from n 3 on");
        felt(x, 3, 0, 3, 4);
        felt(x, 3, 1, 3, 5);
        felt(x, 3, 2, 3, 6);
        felt(x, 3, 3, 3, 12);
        felt(x, 3, 4, 3, 13);
        felt(x, 6, 99, 30, 134);
        // LOAD 7 against CARE 2 behind two MILESTONES, 8 behind three.
        x = new Caller("road m9l7;=0", "go() x2");
        e.dues(x, "count(5)", 0, "go()", 0, "count(5)", 1);
    }

    private void felt(Caller x, int thing, int n, int load, int care) {
        e.due(x, "felt(" + thing + ", " + n + ", 0)", load);
        e.due(x, "felt(" + thing + ", " + n + ", 1)", care);
    }

    private void people() {
        e.sentence(0, "PEOPLE 0 .. 7, as they come, are at a MILESTONE (0 .. 11)");
        Caller x = new Caller("road p1,p2");
        e.dues(x, "person(0, 1, 0)", 0, "told(0, 0)", 0, "told(0, 1)", 1, "told(0, 2)", 0);
        e.dues(x, "person(11, NONE, 20)", 1, "told(1, 0)", 11, "told(1, 1)", NONE, "told(1, 2)", 20);
        for (int p = 2; p <= 7; p++) {
            e.due(x, "person(" + p + ", NONE, " + 2 * p + ")", p);
        }
        for (int p = 2; p <= 7; p++) {
            e.due(x, "told(" + p + ", 0)", p);
            e.due(x, "told(" + p + ", 2)", 2 * p);
        }
        e.dues(x, "person(0, NONE, 0)", FULL, "count(1)", 8);
        e.refused(BAD, Edges.RICH, "person(-1, 3, 0)", "person(12, 3, 0)", "person(0, 3, -1)", "person(0, 3, 21)");
    }

    private void hadByTwo() {
        e.sentence(0, "No THING is had by two");
        String[] begin = {"road p9l9,p8l8,p7;0=1,1;=0", "sheet(0, 0, 4)", "item(0, 0, 0, 1)", "item(0, 0, 1, 1)",
            "item(0, 0, 2, 2)"};
        e.refused(NOT, begin, "person(0, 0, 0)", "person(0, 1, 0)", "take(1)", "deal(0, 0, 0)", "deal(0, 0, 2)");
        Caller x = new Caller(begin);
        e.dues(x, "go()", 1, "of(0, 4)", 0, "of(1, 4)", 8, "take(2)", 1, "of(1, 4)", NONE, "of(2, 4)", 8);
        e.dues(x, "take(0)", NOT, "person(5, 1, 0)", 2, "take(1)", NOT, "undo()", NONE, "go()", 0);
        // What is UNDONE brings back all that was had, so that nobody keeps what was taken since.
        x = new Caller("road p9l9,p8l8,p7;0=1,1;=0", "go()", "take(2)", "undo()");
        e.dues(x, "of(0, 4)", 8, "of(1, 4)", 0, "of(2, 4)", NONE, "told(0, 1)", 1, "count(3)", 0);
        e.is("a text with one THING twice", new Caller().road("p1,p2;0=0,1=0"), -20 - 12);
        e.is("a text with his THING twice", new Caller().road("p1,p2;0=0;=0"), -20 - 11);
    }

    private void he() {
        e.sentence(0, "HE has a THING or nothing (at first)");
        Caller x = new Caller();
        e.dues(x, "count(3)", NONE, "count(4)", 0, "count(5)", 0, "count(2)", 0);
        x.follow("thing(1, 9, 2, 2)", "take(0)");
        for (int m = 1; m <= 12; m++) {
            e.dues(x, "go()", 0, "count(2)", m, "count(4)", m, "count(5)", 1, "count(3)", 0);
        }
        e.dues(x, "go()", NOT, "count(2)", 12, "count(4)", 12);
    }

    private void heedAndWell() {
        e.sentence(0, "HEED is how much WORTH he is not to lose by one change");
        String[] dear = {"road p99l9,p0l8;0=1;=0"};
        e.dues(new Caller(dear), "count(6)", 99, "glad(1)", 1, "go()", 1);
        e.dues(new Caller(Edges.then(dear, "heed(98)")), "count(6)", 98, "glad(1)", 0, "go()", 0);
        String[] alike = {"road p50l9,p50l8,p49l8,p51l8;0=1;=0", "heed(0)"};
        e.dues(new Caller(alike), "count(6)", 0, "glad(1)", 1, "glad(2)", 0, "glad(3)", 1, "go()", 1);
        // By ONE change: 50 to 40 to 30, each by 10, though 20 are lost in all.
        e.dues(new Caller("road p50l9,p40l8,p30l7;0=1,0=2;=0", "heed(10)"), "go()", 2, "count(3)", 2);
        e.refused(BAD, Edges.RICH, "heed(-1)", "heed(100)");
        e.sentence(0, "A WELL is at a MILESTONE, or nowhere (at first)");
        String[] heavy = {"road p9l30;=0"};
        e.dues(new Caller(heavy), "count(7)", NONE, "home(0)", 0);
        e.dues(new Caller(Edges.then(heavy, "well(0)")), "count(7)", 0, "home(0)", NONE, "go()", 0, "count(3)", NONE);
        e.dues(new Caller(Edges.then(heavy, "well(11)", "go() x11")), "count(3)", 0, "home(0)", NONE, "go()", 0,
            "count(3)", NONE);
        e.dues(new Caller(Edges.then(heavy, "well(0)", "go()", "take(0)")), "home(0)", 0);
        e.dues(new Caller(Edges.then(heavy, "well(0)", "well(NONE)", "go()")), "count(3)", 0);
    }

    private void comesToThatAhead() {
        e.sentence(0, "A MILESTONE: he comes to that ahead of him");
        String[] ends = {"road p9l9,p9l8,p9l7;0=1,11=2;=0"};
        Caller x = new Caller(ends);
        e.due(x, "go()", 1);
        for (int m = 1; m <= 10; m++) {
            e.due(x, "go()", 0);
        }
        e.dues(x, "go()", 1, "count(3)", 2, "go()", NOT, "again()", 12, "move(1, 0)", 11, "go()", 0, "count(3)", 2);
    }

    private void mind() {
        e.sentence(0, "If he has a THING, n is 1 more, his MIND is of LOAD");
        e.dues(new Caller("road p9l5c5;=0", "go()"), "count(4)", 1, "count(5)", 0);
        e.dues(new Caller("road p9l5c6;=0", "go()"), "count(4)", 1, "count(5)", 1);
        e.dues(new Caller("road p9l0c0;=0", "go()"), "count(5)", 0);
        e.dues(new Caller("road p9l0c1;=0", "go()"), "count(5)", 1);
        e.dues(new Caller("road p9l30c30;=0", "go()"), "count(5)", 0);
        // FELT behind n with the new MILESTONE: CARE 5 is LOAD's equal behind one, more behind two.
        e.dues(new Caller("road b9l5c4;=0"), "go()", 0, "count(5)", 0, "go()", 0, "count(5)", 1);
        e.dues(new Caller("road u9l1c4;=0"), "go()", 0, "count(5)", 1, "go()", 0, "count(5)", 0);
        // With nothing n stays 0 and his MIND stays as it was.
        e.dues(new Caller("road b9;=0", "go()", "take(NONE)"), "count(5)", 1, "go()", 0, "count(4)", 0, "count(5)", 1);
        e.dues(new Caller("go()"), "count(4)", 0, "count(5)", 0);
        e.dues(new Caller("road p9;=0", "go() x12", "again()", "go() x12"), "count(4)", 24);
    }

    private void gladAndWilling() {
        e.sentence(0, "Then PEOPLE there, in order, each that has a THING while he has one");
        changes("p9l5,p9l4;0=1;=0", 99, 1);
        changes("p9l5,p9l5;0=1;=0", 99, 0);
        changes("p9l4,p9l5;0=1;=0", 99, 0);
        changes("p9c5,p9c4;0=1;=0", 99, 1);
        changes("p9c5,p9c5;0=1;=0", 99, 0);
        changes("p9l1c5,p9l9c4;0=1;=0", 99, 1);
        changes("p9l5c1,p9l4c9;0=1;=0", 99, 1);
        // His is FELT behind one MILESTONE, the offered one behind none.
        changes("u9l3,p9l4;0=1;=0", 99, 1);
        changes("u9l3,p9l5;0=1;=0", 99, 0);
        changes("p9l4,u9l3;0=1;=0", 99, 1);
        changes("p9c4,b9c3;0=1;=0", 99, 1);
        changes("b9c4,b9c4;0=1;=0", 99, 1);
        // WORTH above the other one's by HEED at most.
        changes("p9l5,p4l4;0=1;=0", 5, 1);
        changes("p9l5,p3l4;0=1;=0", 5, 0);
        changes("p9l5,p9l4;0=1;=0", 0, 1);
        changes("p9l5,p8l4;0=1;=0", 0, 0);
        changes("p99l5,p0l4;0=1;=0", 99, 1);
        changes("p99l5,p0l4;0=1;=0", 98, 0);
        // WORTH no less than that of its own and MARGIN together.
        changes("p9l5,p10l4;0=1;=0", 99, 0);
        changes("p9l5,p8l4;0=1+1;=0", 99, 1);
        changes("p9l5,p8l4;0=1+2;=0", 99, 0);
        changes("p20l5,p0l4;0=1+20;=0", 99, 1);
        changes("p19l5,p0l4;0=1+20;=0", 99, 0);
        changes("p0l5,p0l4;0=1;=0", 99, 1);
        changes("p99l5,p99l4;0=1+1;=0", 99, 0);
        changes("p99l5,p99l4;0=1;=0", 0, 1);
        // Nothing on either side.
        changes("p9l5,p9l4;0;=0", 99, 0);
        changes("p9l5,p9l4;0=1", 99, 0);
        changes("p9l5;=0", 99, 0);
    }

    private void changes(String text, int heed, int want) {
        Caller x = new Caller("road " + text, "heed(" + heed + ")");
        e.is("CHANGES on " + text + " by HEED " + heed, x.ask("go()"), want);
        e.dues(x, "count(8)", want, "undo()", 0, "home(1)", want);
    }

    private void inOrder() {
        // Each in order of number, not of WORTH; he goes on with what he got.
        Caller x = new Caller("road p9l9,p9l7,p9l8,p9l6;3=1,3=2,3,3=3;=0", "go() x3");
        e.dues(x, "go()", 2, "count(3)", 3, "told(0, 1)", 0, "told(1, 1)", 2, "told(2, 1)", NONE, "told(3, 1)", 1);
        x = new Caller("road p9l9,p9l8,p9l7,p9l6,p9l5,p9l4,p9l3,p9l2,p9l1;0=1,0=2,0=3,0=4,0=5,0=6,0=7,0=8;=0");
        e.dues(x, "go()", 8, "count(3)", 8, "count(8)", 8, "told(0, 1)", 0, "told(7, 1)", 7);
    }

    private void change() {
        e.sentence(0, "If both are so, they CHANGE (n is 0 then, his MIND stays)");
        // Of CARE he gets what is heavy and of no CARE: his MIND is of CARE until the next MILESTONE.
        Caller x = new Caller("road b9l1c1,p9l9;2=1;=0", "go() x2");
        e.dues(x, "count(4)", 2, "count(5)", 1, "go()", 1, "count(3)", 1, "told(0, 1)", 0, "count(4)", 0, "count(5)", 1,
            "go()", 0, "count(4)", 1, "count(5)", 0);
        // With n 0 his new BURDEN of 5 is FELT as 5, not 7: no more than the next one's 5.
        x = new Caller("road u9l5,u9l5,p9l5;0=1,0=2;=0");
        e.dues(x, "go()", 1, "count(3)", 1, "count(4)", 0);
        // GLAD alone, WILLING alone: no CHANGE.
        e.dues(new Caller("road p9l9,p10l8;0=1;=0", "go()"), "count(3)", 0, "told(0, 1)", 1, "count(4)", 1);
        e.dues(new Caller("road p9l8,p8l8;0=1;=0", "go()"), "count(3)", 0, "told(0, 1)", 1, "count(4)", 1);
    }

    private void goneInTheWell() {
        e.sentence(0, "Then the WELL there: his THING is gone, if FELT LOAD is 10 or more");
        has("p9l10;=0", 0, NONE);
        has("p9l9;=0", 0, 0);
        has("p9l30;=0", 0, NONE);
        has("p9c30;=0", 0, 0);
        // FELT: a BURDEN of 8 is 10 behind one MILESTONE, of 7 it is 9.
        has("u9l8;=0", 0, NONE);
        has("u9l7;=0", 0, 0);
        has("u9l7;=0", 1, NONE);
        // Behind PEOPLE: what he got there is FELT behind 0 MILESTONES.
        has("p9l10,p9l9;0=1;=0", 0, 1);
        has("p9l11,p9l10;0=1;=0", 0, NONE);
        has("p9l11,u9l9;0=1;=0", 0, 1);
        has("p9l10;=0", 11, NONE);
        Caller x = new Caller("road b9l10c10;=0", "well(0)", "go()");
        e.dues(x, "count(3)", NONE, "count(4)", 0, "count(5)", 1, "of(0, 4)", NONE, "count(8)", 0, "take(0)", NONE);
        e.dues(new Caller("road p9l10", "well(0)"), "go()", 0, "count(3)", NONE, "count(4)", 0);
    }

    private void has(String text, int well, int want) {
        Caller x = new Caller("road " + text, "well(" + well + ")", "go() x" + (well + 1));
        e.is("what he has behind the WELL at " + well + " on " + text, x.ask("count(3)"), want);
    }

    private void aheadOfTheNext() {
        e.sentence(0, "He is ahead of the next one");
        e.dues(new Caller(), "go()", 0, "count(2)", 1);
        e.dues(new Caller("go() x11"), "count(2)", 11, "go()", 0, "count(2)", 12, "go()", NOT, "count(2)", 12);
        e.dues(new Caller("road p9l10;=0", "well(0)"), "go()", 0, "count(2)", 1);
    }

    private void sheets() {
        e.sentence(0, "Ahead of the calls `seen`, `film`, `deal`, `sheet`, `drop`, `item`, `copy`");
        Caller x = new Caller();
        for (int s = 0; s <= 3; s++) {
            e.due(x, "drop(" + s + ")", NULL);
        }
        for (int lane = 0; lane <= 3; lane++) {
            e.dues(x, "sheet(" + lane + ", " + lane + ", 16)", 16, "item(" + lane + ", " + lane + ", 15, 1)", 1,
                "item(" + lane + ", " + lane + ", 16, 1)", INDEX);
            for (int other = 0; other <= 3; other++) {
                e.due(x, "item(" + lane + ", " + other + ", 0, 1)", other == lane ? 1 : CAST);
            }
        }
        for (int lane = 0; lane <= 3; lane++) {
            e.dues(x, "drop(" + lane + ")", 16, "sheet(" + lane + ", " + lane + ", 0)", 0,
                "item(" + lane + ", " + lane + ", 0, 1)", INDEX, "drop(" + lane + ")", 0, "drop(" + lane + ")", NULL);
        }
        e.refused(BAD, Edges.RICH, "sheet(-1, 0, 1)", "sheet(4, 0, 1)", "sheet(0, -1, 1)", "sheet(0, 4, 1)",
            "sheet(0, 0, 17)");
    }
}
