/** A test for each sentence of promises 1 to 17. */
final class RoadEdges {
    private static final int BAD = -1, NOT = -2, FULL = -3, NONE = -4, NULL = -11;
    private static final String TEN = "p0,p1,p2,p3,p4,p5,p6,p7,p8,p9";
    private static final String[] RICH = Edges.RICH;

    private final Edges e;

    RoadEdges(Edges e) {
        this.e = e;
    }

    void all() {
        emptyRoad();
        thing();
        of();
        felt();
        person();
        told();
        move();
        take();
        count();
        heed();
        well();
        type();
        road();
        go();
        undo();
        again();
        glad();
    }

    private void emptyRoad() {
        e.sentence(1, "An empty road");
        Caller x = new Caller();
        int[] counts = {0, 0, 0, NONE, 0, 0, 99, NONE, 0, 0};
        for (int what = 0; what < counts.length; what++) {
            e.due(x, "count(" + what + ")", counts[what]);
        }
        e.dues(x, "of(0, 0)", BAD, "told(0, 0)", BAD, "felt(0, 0, 0)", BAD, "take(0)", BAD, "take(NONE)", NONE,
            "move(0, 0)", BAD, "glad(0)", BAD, "undo()", NONE, "restore()", NONE, "road()", -20);
        e.dues(x, "home(0)", NONE, "home(1)", 0, "home(2)", NONE, "lost()", 0, "lurk(0, 0)", BAD, "stand(0, 0)", BAD,
            "sister(0, 0)", BAD, "meet(0, 0)", BAD, "first(0)", BAD, "cheated(0)", 0, "cheated(-1)", NONE,
            "chance(NONE, 0)", FULL);
        for (int s = 0; s <= 3; s++) {
            e.due(x, "drop(" + s + ")", NULL);
        }
        for (int m = 0; m < 12; m++) {
            e.due(x, "go()", 0);
        }
        e.dues(x, "go()", NOT, "chance(NONE, 0)", 1, "chance(NONE, 1)", 1);
        // Another object knows nothing of it.
        new Caller(RICH);
        e.dues(new Caller(), "count(0)", 0, "drop(0)", NULL, "type(112)", 1);
    }

    private void thing() {
        e.sentence(2, "A THING that nobody has: its number");
        Caller x = new Caller();
        for (int t = 0; t <= 9; t++) {
            e.dues(x, "thing(" + t % 4 + ", " + 11 * t + ", " + 3 * t + ", " + (30 - t) + ")", t, "of(" + t + ", 4)", NONE,
                "count(0)", t + 1);
        }
        for (int t = 0; t <= 9; t++) {
            e.dues(x, "of(" + t + ", 0)", t % 4, "of(" + t + ", 1)", 11 * t, "of(" + t + ", 2)", 3 * t,
                "of(" + t + ", 3)", 30 - t);
        }
        // Behind a ROAD's THINGS, too.
        e.dues(new Caller(RICH), "thing(0, 99, 30, 30)", 4, "of(4, 4)", NONE, "count(3)", 1, "count(9)", 0);
        e.sentence(2, "BAD; FULL: 10");
        String[] nine = {"road p0,p1,p2,p3,p4,p5,p6,p7,p8;0=8;=0", "go()"};
        e.dues(new Caller(nine), "thing(0, 0, 0, 0)", 9, "thing(0, 0, 0, 0)", FULL);
        e.refused(FULL, Edges.with("road " + TEN + ";0=9;=0", "go()"), "thing(0, 0, 0, 0)", "thing(3, 99, 30, 30)");
        e.refused(BAD, RICH, "thing(-1, 1, 1, 1)", "thing(4, 1, 1, 1)", "thing(MIN, 1, 1, 1)", "thing(MAX, 1, 1, 1)",
            "thing(0, -1, 1, 1)", "thing(0, 100, 1, 1)", "thing(0, MIN, 1, 1)", "thing(0, MAX, 1, 1)",
            "thing(0, 1, -1, 1)", "thing(0, 1, 31, 1)", "thing(0, 1, MIN, 1)", "thing(0, 1, MAX, 1)",
            "thing(0, 1, 1, -1)", "thing(0, 1, 1, 31)", "thing(0, 1, 1, MIN)", "thing(0, 1, 1, MAX)");
    }

    private void of() {
        e.sentence(3, "Of a THING: 0 KIND, 1 WORTH, 2 LOAD, 3 CARE, 4 who has it");
        Caller x = new Caller("road m1l2c3," + "b99l30c29,p0,p0,p0,p0,p0,p0,p0,u0;0=0,0,0,0,0,0,0,0=8;=1");
        e.dues(x, "of(0, 0)", 3, "of(0, 1)", 1, "of(0, 2)", 2, "of(0, 3)", 3, "of(0, 4)", 0);
        e.dues(x, "of(1, 0)", 1, "of(1, 1)", 99, "of(1, 2)", 30, "of(1, 3)", 29, "of(1, 4)", 8);
        e.dues(x, "of(8, 4)", 7, "of(9, 0)", 2, "of(9, 4)", NONE);
        e.changesNothing(RICH, "of(0, 0)", "of(1, 4)", "of(3, 4)");
        e.sentence(3, "BAD");
        e.refused(BAD, RICH, "of(-1, 0)", "of(4, 0)", "of(NONE, 4)", "of(MIN, 0)", "of(MAX, 0)", "of(0, -1)", "of(0, 5)",
            "of(0, MIN)", "of(0, MAX)");
        e.dues(new Caller("road " + TEN), "of(9, 1)", 9, "of(10, 1)", BAD);
    }

    private void felt() {
        e.sentence(4, "FELT LOAD (0), CARE (1) of a THING behind n MILESTONES (0 .. 99)");
        Caller x = new Caller("road p1l2c3,b4l5c6,u7l8c9,m1l2c3");
        int[][] due = {{2, 3, 2, 3}, {5, 6, 5, 105}, {8, 9, 206, 9}, {2, 3, 2, 107}};
        for (int t = 0; t < due.length; t++) {
            e.dues(x, "felt(" + t + ", 0, 0)", due[t][0], "felt(" + t + ", 0, 1)", due[t][1],
                "felt(" + t + ", 99, 0)", due[t][2], "felt(" + t + ", 99, 1)", due[t][3]);
        }
        e.changesNothing(RICH, "felt(0, 0, 0)", "felt(1, 99, 1)");
        e.sentence(4, "BAD");
        e.refused(BAD, RICH, "felt(-1, 0, 0)", "felt(4, 0, 0)", "felt(NONE, 0, 0)", "felt(MIN, 0, 0)", "felt(MAX, 0, 0)",
            "felt(0, -1, 0)", "felt(0, 100, 0)", "felt(0, MIN, 0)", "felt(0, MAX, 0)", "felt(0, 0, -1)",
            "felt(0, 0, 2)", "felt(0, 0, MIN)", "felt(0, 0, MAX)");
    }

    private void person() {
        e.sentence(5, "A PERSON with a THING (or NONE): its number");
        Caller x = new Caller("road " + TEN + ";=9");
        for (int p = 0; p <= 7; p++) {
            String thing = p % 2 == 0 ? String.valueOf(p) : "NONE";
            e.dues(x, "person(" + (11 - p) + ", " + thing + ", " + (20 - p) + ")", p, "count(1)", p + 1);
        }
        for (int p = 0; p <= 7; p++) {
            e.dues(x, "told(" + p + ", 0)", 11 - p, "told(" + p + ", 1)", p % 2 == 0 ? p : NONE, "told(" + p + ", 2)",
                20 - p);
        }
        e.dues(x, "of(0, 4)", 0, "of(6, 4)", 6, "of(1, 4)", NONE, "count(3)", 9);
        e.dues(new Caller("road p1,p2", "person(11, 1, 20)"), "told(0, 0)", 11, "told(0, 1)", 1, "told(0, 2)", 20);
        e.sentence(5, "BAD; NOT: the THING is had; FULL: 8");
        e.refused(BAD, RICH, "person(-1, 3, 0)", "person(12, 3, 0)", "person(MIN, 3, 0)", "person(MAX, 3, 0)",
            "person(0, -1, 0)", "person(0, -3, 0)", "person(0, -5, 0)", "person(0, 4, 0)", "person(0, MIN, 0)",
            "person(0, MAX, 0)", "person(0, 3, -1)", "person(0, 3, 21)", "person(0, 3, MIN)", "person(0, 3, MAX)",
            "person(0, NONE, 21)", "person(12, NONE, 0)");
        e.refused(NOT, RICH, "person(0, 0, 0)", "person(0, 1, 0)", "person(11, 2, 20)");
        String[] eight = {"road p0,p1,p2;0,1,2,3,4,5,6,7=1;=0", "go()"};
        e.refused(FULL, eight, "person(0, 2, 0)", "person(0, NONE, 0)");
        e.refused(NOT, eight, "person(0, 1, 0)", "person(0, 0, 0)");
        e.refused(BAD, eight, "person(0, 3, 0)", "person(12, 1, 0)");
    }

    private void told() {
        e.sentence(6, "Of a PERSON: 0 the MILESTONE, 1 its THING (NONE), 2 MARGIN");
        Caller x = new Caller("road p1,p2;11=0+20,0,1,2,3,4,5,6=1+7");
        e.dues(x, "told(0, 0)", 11, "told(0, 1)", 0, "told(0, 2)", 20, "told(1, 0)", 0, "told(1, 1)", NONE, "told(1, 2)", 0,
            "told(7, 0)", 6, "told(7, 1)", 1, "told(7, 2)", 7);
        e.changesNothing(RICH, "told(0, 0)", "told(1, 1)", "told(2, 2)");
        e.sentence(6, "BAD");
        e.refused(BAD, RICH, "told(-1, 0)", "told(3, 0)", "told(8, 0)", "told(MIN, 0)", "told(MAX, 0)", "told(0, -1)",
            "told(0, 3)", "told(0, MIN)", "told(0, MAX)");
        e.due(x, "told(8, 0)", BAD);
    }

    private void move() {
        e.sentence(7, "A PERSON goes to a MILESTONE: where it was");
        Caller x = new Caller("road p9l9,p9l8;5=1,1,1,1,1,1,1,1;=0");
        e.dues(x, "move(0, 11)", 5, "told(0, 0)", 11, "move(0, 11)", 11, "move(0, 0)", 11, "told(0, 0)", 0, "move(7, 3)", 1,
            "told(7, 0)", 3, "told(6, 0)", 1, "told(0, 1)", 1, "go()", 1);
        // Where he was already, and whatever may be UNDONE stays.
        e.dues(x, "move(0, 6)", 0, "count(9)", 1, "undo()", 0, "told(0, 0)", 6, "told(0, 1)", 1);
        e.like(new Caller(Edges.then(RICH, "move(2, 9)", "move(2, 2)")), "there and back", RICH);
        e.sentence(7, "BAD");
        e.refused(BAD, RICH, "move(-1, 0)", "move(3, 0)", "move(MIN, 0)", "move(MAX, 0)", "move(0, -1)", "move(0, 12)",
            "move(0, NONE)", "move(0, MIN)", "move(0, MAX)");
    }

    private void take() {
        e.sentence(8, "He has a THING (or NONE) in place of what he had, n 0: what he had (NONE)");
        Caller x = new Caller("road b9,p8,p7;5=1");
        e.dues(x, "take(NONE)", NONE, "count(3)", NONE, "take(0)", NONE, "count(3)", 0, "of(0, 4)", 8, "go()", 0,
            "count(4)", 1, "count(5)", 1);
        e.dues(x, "take(0)", 0, "count(3)", 0, "count(4)", 0, "count(5)", 1, "go()", 0, "count(4)", 1);
        e.dues(x, "take(2)", 0, "count(3)", 2, "count(4)", 0, "of(0, 4)", NONE, "go()", 0, "count(4)", 1);
        e.dues(x, "take(NONE)", 2, "count(3)", NONE, "count(4)", 0, "of(2, 4)", NONE, "count(9)", 3, "count(2)", 3);
        e.dues(new Caller("road " + TEN), "take(9)", NONE, "take(0)", 9, "count(3)", 0);
        e.sentence(8, "BAD; NOT: a PERSON has it");
        e.refused(BAD, RICH, "take(-1)", "take(4)", "take(-3)", "take(-5)", "take(MIN)", "take(MAX)");
        e.refused(NOT, RICH, "take(0)", "take(2)");
    }

    private void count() {
        e.sentence(9, "0 THINGS, 1 PEOPLE, 2 the MILESTONE ahead of him (12: home)");
        Caller x = new Caller(RICH);
        int[] rich = {4, 3, 3, 1, 2, 0, 40, 8, 1, 3};
        for (int what = 0; what < rich.length; what++) {
            e.due(x, "count(" + what + ")", rich[what]);
        }
        x = new Caller("road " + TEN + ";0,0,0,0,0,0,0,0", "go() x12");
        int[] most = {10, 8, 12, NONE, 0, 0, 99, NONE, 0, 8};
        for (int what = 0; what < most.length; what++) {
            e.due(x, "count(" + what + ")", most[what]);
        }
        e.changesNothing(RICH, "count(0)", "count(9)");
        e.sentence(9, "BAD");
        e.refused(BAD, RICH, "count(-1)", "count(10)", "count(NONE)", "count(MIN)", "count(MAX)");
    }

    private void heed() {
        e.sentence(10, "HEED: what it was");
        e.dues(new Caller(), "heed(0)", 99, "count(6)", 0, "heed(99)", 0, "count(6)", 99, "heed(99)", 99, "heed(50)", 99,
            "count(6)", 50);
        e.like(new Caller(Edges.then(RICH, "heed(0)", "heed(40)")), "there and back", RICH);
        e.sentence(10, "BAD");
        e.refused(BAD, RICH, "heed(-1)", "heed(100)", "heed(NONE)", "heed(MIN)", "heed(MAX)");
    }

    private void well() {
        e.sentence(11, "The WELL is at a MILESTONE, or nowhere (NONE): where it was (NONE)");
        e.dues(new Caller(), "well(NONE)", NONE, "well(0)", NONE, "count(7)", 0, "well(11)", 0, "count(7)", 11, "well(11)",
            11, "well(NONE)", 11, "count(7)", NONE, "well(5)", NONE);
        e.like(new Caller(Edges.then(RICH, "well(NONE)", "well(8)")), "there and back", RICH);
        e.sentence(11, "BAD");
        e.refused(BAD, RICH, "well(-1)", "well(12)", "well(-3)", "well(-5)", "well(MIN)", "well(MAX)");
    }

    private void type() {
        e.sentence(12, "One letter more behind THE TAPE: how many it has");
        Caller x = new Caller();
        e.dues(x, "type(32)", 1, "type(126)", 2, "road()", -21, "type(112)", 1, "type(53)", 2, "road()", 1, "of(0, 1)", 5,
            "type(112)", 1);
        x = new Caller();
        for (int letter = 32; letter <= 126; letter++) {
            e.due(x, "type(" + letter + ")", letter - 31);
        }
        e.sentence(12, "BAD: not 32 .. 126; FULL: 120");
        e.refused(BAD, RICH, "type(31)", "type(127)", "type(0)", "type(-1)", "type(10)", "type(255)", "type(65648)",
            "type(4208)", "type(MIN)", "type(MAX)");
        StringBuilder blanks = new StringBuilder("p1");
        while (blanks.length() < 119) {
            blanks.append(' ');
        }
        String[] almost = {"type " + blanks};
        e.dues(new Caller(almost), "type(32)", 120, "type(32)", FULL, "type(126)", FULL, "road()", 1, "type(32)", 1);
        e.refused(FULL, Edges.then(almost, "type(32)"), "type(32)", "type(120)", "type(126)");
        e.refused(BAD, Edges.then(almost, "type(32)"), "type(31)", "type(127)");
    }

    private void road() {
        e.sentence(13, "THE TAPE, which is empty then, is a ROAD: how many THINGS");
        Caller x = new Caller("type p1");
        e.dues(x, "road()", 1, "type(112)", 1, "road()", -21, "type(112)", 1);
        x = new Caller();
        e.is("ten", x.road(TEN), 10);
        e.dues(x, "road()", -20, "count(0)", 10);
        e.is("two", x.road("p1,p2"), 2);
        e.dues(x, "count(0)", 2, "of(2, 0)", BAD);
        // Empty: no letter of an earlier TAPE is behind a shorter one.
        x = new Caller("road p19;0=0", "road p1");
        e.dues(x, "of(0, 1)", 1, "count(1)", 0);
        x = new Caller("road p1l29");
        e.is("a fault", x.road("p1l"), -23);
        e.is("a shorter one", x.road("p1l2"), 1);
        e.due(x, "of(0, 2)", 2);
        // The IMAGE and the SHEETS stay behind a new ROAD.
        x = new Caller(RICH);
        e.dues(x, "road()", 2, "count(0)", 2, "drop(0)", 3, "restore()", 1, "count(0)", 4, "count(2)", 1);
        e.sentence(13, "A FAULT (all stays)");
        String[] begin = {"road b9,p8;0=1;=0", "heed(3)", "well(2)", "go()", "image()", "go()", "sheet(0, 0, 1)"};
        for (String text : new String[] {"", "p", "p1,b2;3=1;=0x", "p1;0=0;=0", "p1,p2,", TEN + ",p1"}) {
            x = new Caller(begin);
            e.is("a fault", x.road(text) < -19 ? 1 : 0, 1);
            e.like(x, "behind the fault of '" + text + "'", begin);
        }
    }

    private void go() {
        e.sentence(14, "A MILESTONE: how many CHANGES there");
        Caller x = new Caller("road p9l9,p9l8,p9l7,p9l6;0=1,1=2,1=3;=0");
        e.dues(x, "go()", 1, "go()", 2, "go()", 0, "count(8)", 3, "count(3)", 3, "count(2)", 3);
        e.dues(new Caller("road p9l9,p9l8;0=1"), "go()", 0, "count(3)", NONE);
        e.sentence(14, "NOT: he is home");
        e.dues(new Caller("go() x11"), "go()", 0, "go()", NOT);
        e.refused(NOT, Edges.with("road b9,p8;11=1;=0", "go() x12"), "go()");
        e.refused(NOT, Edges.then(RICH, "go() x9"), "go()");
        e.dues(new Caller("go() x12", "again()"), "go()", 0, "count(2)", 1);
    }

    private void undo() {
        e.sentence(15, "UNDONE: how many more may be");
        e.dues(new Caller("go()"), "undo()", 0, "undo()", NONE);
        e.dues(new Caller("go() x8"), "undo()", 7, "undo()", 6);
        e.dues(new Caller("go() x9"), "undo()", 7, "count(2)", 8);
        e.dues(new Caller("go() x12"), "undo()", 7, "count(2)", 11, "go()", 0, "count(9)", 8, "undo()", 7);
        e.dues(new Caller("go() x12", "again()", "go()"), "undo()", 7, "count(2)", 0, "undo()", 6, "count(2)", 11);
        e.sentence(15, "NONE: none is known");
        e.refused(NONE, Edges.with(), "undo()");
        e.refused(NONE, Edges.with("road b9;=0", "go() x10", "undo() x8"), "undo()");
        e.refused(NONE, Edges.then(RICH, "thing(0, 1, 1, 1)"), "undo()");
        e.refused(NONE, Edges.then(RICH, "person(0, NONE, 0)"), "undo()");
        e.refused(NONE, Edges.then(RICH, "road()"), "undo()");
    }

    private void again() {
        e.sentence(16, "He is ahead of MILESTONE 0 again (all else stays): ahead of which he was");
        e.dues(new Caller(), "again()", 0, "count(2)", 0);
        e.dues(new Caller("go()"), "again()", 1, "count(2)", 0, "again()", 0);
        e.dues(new Caller("go() x11"), "again()", 11);
        e.dues(new Caller("go() x12"), "again()", 12, "count(2)", 0, "go()", 0, "count(2)", 1);
        Caller x = new Caller(Edges.then(RICH, "again()"));
        int[] rich = {4, 3, 0, 1, 2, 0, 40, 8, 1, 3};
        for (int what = 0; what < rich.length; what++) {
            e.due(x, "count(" + what + ")", rich[what]);
        }
        // All else: where he is apart, it is as if he had not been set back; UNDONE tells where he was.
        x = new Caller(Edges.then(RICH, "again()", "go() x3", "undo() x3"));
        e.like(x, "again, to and fro", Edges.then(RICH, "again()"));
        e.changesNothing(Edges.with("road b9,p8;3=1;=0", "heed(3)", "well(2)", "image()"), "again()");
    }

    private void glad() {
        e.sentence(17, "Whether he would be GLAD of a THING now (1, 0)");
        String[] begin = {"road u50l3c5,p50l2c5,p50l3c4,p40l0c0,p39l0c0,p99l0c0,p50l4c4;2=1;=0", "heed(10)"};
        // MIND 0, n 0: LOAD 3.
        e.dues(new Caller(begin), "glad(1)", 1, "glad(2)", 0, "glad(3)", 1, "glad(4)", 0, "glad(5)", 1, "glad(6)", 0);
        // n 1: LOAD 5 and CARE 5, MIND 0.
        e.dues(new Caller(Edges.then(begin, "go()")), "glad(1)", 1, "glad(2)", 1, "glad(6)", 1);
        // Taken anew n is 0, and by a MIND of CARE, 5 is more than 4 and not more than 5.
        String[] care = {"road p50l1c5,p50c5,p50l9c4,p50l9c6;=0", "go()"};
        e.dues(new Caller(care), "count(5)", 1, "glad(1)", 0, "glad(2)", 1, "glad(3)", 0);
        e.dues(new Caller(Edges.then(care, "go() x11")), "glad(2)", 1);
        // GLAD is no matter of who has it, nor of being WILLING.
        e.dues(new Caller("road p1l9,p99l8;4=1+20;=0"), "glad(1)", 1);
        e.changesNothing(RICH, "glad(0)", "glad(2)", "glad(3)");
        e.sentence(17, "BAD; NOT: he has nothing, he has it");
        e.refused(BAD, RICH, "glad(-1)", "glad(4)", "glad(NONE)", "glad(MIN)", "glad(MAX)");
        e.refused(NOT, RICH, "glad(1)");
        e.refused(NOT, Edges.then(RICH, "take(NONE)"), "glad(0)", "glad(1)", "glad(3)");
        e.refused(BAD, Edges.then(RICH, "take(NONE)"), "glad(4)", "glad(NONE)");
    }
}
