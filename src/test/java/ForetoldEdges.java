/** A test for each sentence of 'Terms' on what is FORETOLD, and of promises 18 to 28. */
final class ForetoldEdges {
    private static final int BAD = -1, NOT = -2, FULL = -3, NONE = -4;
    private static final String[] RICH = Edges.RICH;
    private static final String[] RICH_AT_HOME = Edges.then(RICH, "go() x9");

    private final Edges e;

    ForetoldEdges(Edges e) {
        this.e = e;
    }

    void all() {
        has();
        lost();
        changesAndRefused();
        homeAndLostCalls();
        waitFor();
        waitForWhat();
        lurk();
        stand();
        standCall();
        sister();
        meet();
        part();
        meetCall();
        first();
        firstCall();
        cheated();
        cheatedCall();
        chance();
        chanceOfCareAndOffers();
        chanceCall();
        image();
        restore();
    }

    private void has() {
        e.sentence(0, "FORETOLD from now on to home (nothing is changed): HAS: which THING he has at home");
        e.dues(new Caller("road p9l9,p9l8;11=1;=0"), "home(0)", 1, "count(3)", 0, "count(2)", 0, "told(0, 1)", 1);
        e.dues(new Caller("road p9l9,p9l8;0=1;=0"), "home(0)", 1);
        // From now on: whom he has passed he does not meet.
        e.dues(new Caller("road p9l9,p9l8;4=1;=0", "heed(0)", "go() x4"), "home(0)", 1);
        e.dues(new Caller("road p9l9,p8l8;4=1;=0", "heed(0)", "go() x5", "heed(9)"), "home(0)", 0, "again()", 5,
            "home(0)", 1);
        e.dues(new Caller("road p9l9"), "home(0)", NONE);
        e.dues(new Caller("road p9l10;=0", "well(11)"), "home(0)", NONE, "count(3)", 0);
        e.dues(new Caller("road p9l9,p9l8;11=1;=0", "go() x12"), "home(0)", 1);
        e.changesNothing(RICH, "home(0)", "home(1)", "home(2)", "lost()", "lurk(1, 0)", "lurk(2, 1)", "stand(0, 0)",
            "stand(2, 1)", "sister(3, 0)", "sister(3, 1)", "meet(3, 0)", "meet(3, 2)", "first(3)", "first(1)",
            "cheated(99)", "cheated(0)", "chance(1, 0)", "chance(NONE, 1)");
        e.changesNothing(RICH_AT_HOME, "home(0)", "lost()", "lurk(1, 0)", "sister(3, 0)", "meet(3, 0)", "first(3)",
            "cheated(0)", "chance(1, 0)");
    }

    private void lost() {
        e.sentence(0, "LOST: WORTH of what he has now less that at home (nothing: 0; it may be below 0)");
        e.dues(new Caller("road p99l9,p0l8;11=1;=0"), "lost()", 99);
        e.dues(new Caller("road p99l10;=0", "well(11)"), "lost()", 99);
        e.dues(new Caller("road p99l9;=0"), "lost()", 0);
        e.dues(new Caller("road p99l9"), "lost()", 0);
        e.dues(new Caller(), "lost()", 0);
        e.dues(new Caller("road p9l9,p9l8;0=1;=0"), "lost()", 0);
        // What he has now, not what he set out with.
        e.dues(new Caller("road p50l9,p40l8,p10l7;0=1,11=2;=0", "go()"), "lost()", 30);
        e.dues(new Caller("road p50l9,p40l8;0=1;=0", "go() x12"), "lost()", 0);
    }

    private void changesAndRefused() {
        e.sentence(0, "CHANGES: how many");
        Caller x = new Caller("road p9l9,p9l8,p9l7;0=1,11=2;=0");
        e.dues(x, "home(1)", 2, "go()", 1, "home(1)", 1, "count(8)", 1);
        x.follow("go() x11");
        e.dues(x, "home(1)", 0, "count(8)", 2);
        e.dues(new Caller("road p9l9,p9l8;0=1"), "home(1)", 0);
        e.dues(new Caller("road p9l9,p9l8,p9l7,p9l6,p9l5,p9l4,p9l3,p9l2,p9l1;"
            + "0=1,1=2,2=3,3=4,4=5,5=6,6=7,11=8;=0"), "home(1)", 8, "home(0)", 8);
        e.sentence(0, "REFUSED: the first MILESTONE at which he is GLAD of a THING and its PERSON is not WILLING");
        e.dues(new Caller("road p9l9,p10l8;0=1;=0"), "home(2)", 0);
        e.dues(new Caller("road p9l9,p9l8;11=1+1;=0"), "home(2)", 11);
        e.dues(new Caller("road p9l9,p9l8;11=1;=0"), "home(2)", NONE);
        e.dues(new Caller("road p9l8,p10l8;11=1;=0"), "home(2)", NONE);
        e.dues(new Caller("road p9l9,p8l8;11=1+20;=0", "heed(0)"), "home(2)", NONE);
        x = new Caller("road p9l9,p10l8,p10l7;7=1,3=2;=0");
        e.dues(x, "home(2)", 3);
        x.follow("go() x3");
        e.due(x, "home(2)", 3);
        x.follow("go()");
        e.due(x, "home(2)", 7);
        x.follow("go() x4");
        e.dues(x, "home(2)", NONE, "again()", 8, "home(2)", 3);
        // Refused by one, given by the next at the same MILESTONE.
        e.dues(new Caller("road p9l9,p10l8,p9l7;5=1,5=2;=0"), "home(2)", 5, "home(1)", 1);
        e.dues(new Caller("road p9l9;5;=0"), "home(2)", NONE);
    }

    private void homeAndLostCalls() {
        e.sentence(18, "HAS (0; NONE), CHANGES (1), REFUSED (2; NONE)");
        e.dues(new Caller("road p9l9,p9l8,p10l7;2=1,4=2;=0"), "home(0)", 1, "home(1)", 1, "home(2)", 4);
        e.dues(new Caller("road p9l9,p9l8;2=1"), "home(0)", NONE, "home(1)", 0, "home(2)", NONE);
        e.dues(new Caller(), "home(0)", NONE, "home(1)", 0, "home(2)", NONE);
        e.sentence(18, "BAD");
        e.refused(BAD, RICH, "home(-1)", "home(3)", "home(NONE)", "home(MIN)", "home(MAX)");
        e.sentence(19, "LOST");
        e.dues(new Caller("road p99l9,p0l8;0=1;=0"), "lost()", 99, "go()", 1, "lost()", 0, "undo()", 0, "lost()", 99);
        e.dues(new Caller("road p99l9,p0l8;0=1;=0", "take(NONE)"), "lost()", 0);
    }

    private void waitFor() {
        e.sentence(0, "WAIT for a THING that he has or that PEOPLE have");
        // Behind all others in order: at 3 he comes to it with the THING that he got there.
        Caller x = new Caller("road p50l9,p40l8,p30l7;3=1;=0");
        e.dues(x, "lurk(0, 0)", 2, "lurk(0, 1)", 0, "lurk(1, 0)", 2, "lurk(1, 1)", 3);
        // One more PERSON, even behind eight.
        x = new Caller("road p50l9,p40l8,p30l7;3=1,3,3,3,3,3,3,3;=0");
        e.dues(x, "lurk(1, 0)", 2, "lurk(1, 1)", 3, "count(1)", 8);
        // MARGIN 0: of like WORTH it is WILLING, of more it is not.
        e.dues(new Caller("road p50l9,p50l8;=0"), "lurk(0, 0)", 1);
        e.dues(new Caller("road p50l9,p51l8;=0"), "lurk(0, 0)", NONE);
        // With a THING that nobody has.
        e.dues(new Caller("road p50l9,p0l8,p40l8;11=1+20,11;=0", "heed(49)"), "lurk(0, 0)", 2);
        e.dues(new Caller("road p50l9,p0l8;3=1+20;=0"), "lurk(1, 0)", NONE, "lurk(0, 0)", NONE);
        // So that it has that THING when he is home.
        e.dues(new Caller("road p50l9,p40l9;=0"), "lurk(0, 0)", NONE);
        e.dues(new Caller("road p50l12,p40l8;=0", "well(0)"), "lurk(0, 0)", 1, "lurk(0, 1)", 0);
        e.dues(new Caller("road p50l12,p40l8;=0", "well(0)", "go()"), "lurk(0, 0)", NOT, "lurk(1, 0)", NOT);
        e.dues(new Caller("road p50l9,p40l8;=0", "heed(9)"), "lurk(0, 0)", NONE, "heed(10)", 9, "lurk(0, 0)", 1);
    }

    private void waitForWhat() {
        // The least WORTH, then the least THING, then the least MILESTONE.
        e.dues(new Caller("road p50l9,p1l8,p0l8,p0l7;=0"), "lurk(0, 0)", 2, "lurk(0, 1)", 0);
        e.dues(new Caller("road p50l9,p50l0,p49l8;=0"), "lurk(0, 0)", 2);
        e.dues(new Caller("road p0l7,p50l9,p0l8;=1"), "lurk(1, 0)", 0);
        e.dues(new Caller("road p0l8,p1,p1,p1,p1,p1,p1,p1,p0l7,p50l9;=9"), "lurk(9, 0)", 0);
        // Of least WORTH at a later MILESTONE ahead of more WORTH at an earlier one.
        e.dues(new Caller("road u50l2,p40l2,p30l25;=0"), "lurk(0, 0)", 2, "lurk(0, 1)", 11);
        e.dues(new Caller("road u50l2,p40l2,p30l26;=0"), "lurk(0, 0)", 1, "lurk(0, 1)", 0);
        // From here on.
        Caller x = new Caller("road p50l9,p40l8;=0", "go() x5");
        e.due(x, "lurk(0, 1)", 5);
        x.follow("go() x6");
        e.dues(x, "lurk(0, 0)", 1, "lurk(0, 1)", 11);
        x.follow("go()");
        e.dues(x, "lurk(0, 0)", NONE, "lurk(0, 1)", NONE);
    }

    private void lurk() {
        e.sentence(20, "WAIT: the THING (0), the MILESTONE (1)");
        e.dues(new Caller("road p50l9,p40l8,p30l8;4=1;=0"), "lurk(0, 0)", 2, "lurk(0, 1)", 0, "lurk(1, 0)", NONE);
        e.dues(new Caller("road p50l9,p40l8,p30l7;4=1;=0", "go() x5"), "lurk(1, 0)", 2, "lurk(1, 1)", 5);
        e.sentence(20, "BAD; NOT: nobody has it; NONE: it can't be");
        e.refused(BAD, RICH, "lurk(-1, 0)", "lurk(4, 0)", "lurk(NONE, 0)", "lurk(MIN, 0)", "lurk(MAX, 0)", "lurk(1, -1)",
            "lurk(1, 2)", "lurk(1, MIN)", "lurk(1, MAX)", "lurk(3, 2)");
        e.refused(NOT, RICH, "lurk(3, 0)", "lurk(3, 1)");
        e.refused(NONE, RICH, "lurk(0, 0)", "lurk(0, 1)", "lurk(2, 0)");
        e.refused(NONE, RICH_AT_HOME, "lurk(0, 0)", "lurk(2, 1)");
        e.refused(NOT, RICH_AT_HOME, "lurk(1, 0)", "lurk(3, 0)");
        e.refused(NONE, Edges.with("road p9l9;=0"), "lurk(0, 0)");
        e.refused(NONE, Edges.with("road p9l9,p9l8,p9;4=1;=0", "take(NONE)"), "lurk(1, 0)", "lurk(1, 1)");
    }

    private void stand() {
        e.sentence(0, "STAND of a PERSON: at which MILESTONE from here on it would have most WORTH when he is home");
        // His LOAD is twice as many as MILESTONES with it: 24 at 11 alone is more than 23.
        e.dues(new Caller("road u50,p40l23;0=1;=0"), "stand(0, 0)", 11, "stand(0, 1)", 50);
        e.dues(new Caller("road u50,p40l24;0=1;=0"), "stand(0, 0)", 0, "stand(0, 1)", 40);
        e.dues(new Caller("road p50l9,p40l8;11=1;=0"), "stand(0, 0)", 0, "stand(0, 1)", 50);
        // All others as they are, in their order: at 3 he comes to it with what he got from the first one.
        Caller x = new Caller("road p50l9,p40l8,p30l7;3=1,9=2;=0");
        e.dues(x, "stand(1, 0)", 0, "stand(1, 1)", 50, "stand(0, 0)", 0, "stand(0, 1)", 50);
        x.follow("go() x3");
        e.dues(x, "stand(1, 0)", 3, "stand(1, 1)", 40, "stand(0, 0)", 3, "stand(0, 1)", 50, "told(1, 0)", 9);
        // The first one is there ahead of it, and leaves him with what is lighter than its own.
        e.dues(new Caller("road p50l9,p40l8,p30l7;3=2,3=1;=0", "go() x3"), "stand(0, 0)", 3, "stand(0, 1)", 50,
            "stand(1, 0)", 3, "stand(1, 1)", 40);
        // With its own MARGIN.
        e.dues(new Caller("road u50,p40l2;0=1+11;=0"), "stand(0, 0)", 0, "stand(0, 1)", 40);
        e.dues(new Caller("road u50,p40l2;0=1+10;=0"), "stand(0, 0)", 1, "stand(0, 1)", 50);
        // From here on: the last MILESTONE is one still.
        e.dues(new Caller("road p50l9,p40l8;0=1;=0", "heed(0)", "go() x11", "heed(10)"), "stand(0, 0)", 11, "stand(0, 1)",
            50);
    }

    private void standCall() {
        e.sentence(21, "STAND: the MILESTONE (0), WORTH of what it has then (1; nothing: 0)");
        e.dues(new Caller("road p50l9;7,11;=0"), "stand(0, 0)", 0, "stand(0, 1)", 0, "stand(1, 0)", 0, "stand(1, 1)", 0);
        e.dues(new Caller("road p50l9;7;=0", "go() x4"), "stand(0, 0)", 4, "stand(0, 1)", 0);
        e.dues(new Caller("road p99l9,p0l8;7,0,0,0,0,0,0,0=1;=0"), "stand(7, 0)", 0, "stand(7, 1)", 99);
        e.dues(new Caller("road p99l9;7=0"), "stand(0, 0)", 0, "stand(0, 1)", 99);
        e.sentence(21, "BAD; NOT: he is home");
        e.refused(BAD, RICH, "stand(-1, 0)", "stand(3, 0)", "stand(8, 0)", "stand(MIN, 0)", "stand(MAX, 0)", "stand(0, -1)",
            "stand(0, 2)", "stand(0, MIN)", "stand(0, MAX)");
        e.refused(NOT, RICH_AT_HOME, "stand(0, 0)", "stand(2, 1)");
        e.refused(BAD, RICH_AT_HOME, "stand(3, 0)", "stand(0, 2)", "stand(-1, -1)");
        e.due(new Caller(Edges.then(RICH, "go() x8")), "stand(0, 0)", 11);
    }

    private void sister() {
        e.sentence(0, "SISTER: she goes the road back from MILESTONE 11 to 0");
        // Who is WILLING has no more WORTH than she: the row without a CHANGE is a best one, and the first.
        e.dues(new Caller("road p50,p50,p49,p0;11=0,0=2"), "sister(1, 0)", 50, "sister(1, 1)", 0, "sister(3, 0)", 0,
            "sister(3, 1)", 0);
        e.dues(new Caller("road p99,p0;0=0"), "sister(1, 0)", 0, "sister(1, 1)", 0);
        e.dues(new Caller("road p0,p0;0=0,0,0,0,0,0,0,0"), "sister(1, 0)", 0, "sister(1, 1)", 0);
        e.dues(new Caller("road p99"), "sister(0, 0)", 99, "sister(0, 1)", 0);
        e.sentence(22, "SISTER with a THING: WORTH (0), with whom (1; a set)");
        e.dues(new Caller("road p50l9,p40l8,p99,p0;5=1;=0"), "sister(2, 0)", 99, "sister(2, 1)", 0, "sister(3, 0)", 0,
            "sister(3, 1)", 0);
        e.sentence(22, "BAD; NOT: somebody has it then");
        e.refused(BAD, RICH, "sister(-1, 0)", "sister(4, 0)", "sister(NONE, 0)", "sister(MIN, 0)", "sister(MAX, 0)",
            "sister(3, -1)", "sister(3, 2)", "sister(3, MIN)", "sister(3, MAX)", "sister(0, 2)");
        e.refused(NOT, RICH, "sister(0, 0)", "sister(0, 1)", "sister(2, 0)");
        // Then, not now: what he has is gone in the WELL ahead of home, or with somebody else.
        e.dues(new Caller("road p50l10,p9;=0", "well(11)"), "sister(0, 0)", 50, "sister(0, 1)", 0, "meet(0, 0)", NOT);
        e.dues(new Caller("road p50l9,p9;=0", "well(11)"), "sister(0, 0)", NOT);
        e.dues(new Caller("road p50l9,p40l8;11=1;=0"), "sister(0, 0)", NOT, "sister(1, 0)", NOT);
        e.dues(new Caller("road p50l12,p40l11;3=1;=0", "well(3)"), "sister(0, 0)", NOT, "sister(1, 0)", 40);
        e.dues(new Caller("road p50l10,p9;=0", "well(11)", "go() x12"), "sister(0, 0)", 50);
    }

    private void meet() {
        e.sentence(0, "MEET: another one like him, with a THING that nobody has");
        // He first, with his for one MILESTONE more: CARE 5 is no more than LOAD 5, CARE 6 is.
        meets("b9l5c4,p9l5c5;=0", 99, 2, 0, 1);
        meets("b9l5c5,p9l5c5;=0", 99, NONE, NONE, NONE);
        // HEED 99 of the other one, his own of him.
        meets("p0l8,p99l9;=0", 98, 4, 1, 0);
        meets("p0l8,p99l9;=0", 99, NONE, NONE, NONE);
        meets("p50l9,p0l8;=0", 49, 2, 0, 1);
        meets("p50l9,p0l8;=0", 50, NONE, NONE, NONE);
        // The other one had its THING for 0: at its first turn CARE 5 is no more than LOAD 5.
        meets("p9l5c5,b9l5c4;=0", 99, 2, 0, 1);
        meets("p9l5c5,b9l5c5;=0", 99, NONE, NONE, NONE);
        // He had his for as long as he had it; the other one is WILLING though it loses 99.
        Caller x = new Caller("road b0l5,p99l5c5;=0", "go() x4");
        e.dues(x, "meet(1, 0)", 2, "meet(1, 1)", 0, "meet(1, 2)", 1, "go()", 0, "meet(1, 0)", 3, "meet(1, 1)", 1,
            "meet(1, 2)", 0);
        // What the one of them has is FELT by the other one behind 0: his BURDEN as 0, though had for ten.
        e.due(new Caller("road u9,p8l5;=0", "heed(0)", "go() x10"), "meet(1, 0)", NONE);
        // n is 0 for both: neither what he got nor what he gave is had for longer than since then.
        meets("m0l5c6,b20l4c7;=0", 12, 4, 1, 0);
        // At once, wherever he is; PEOPLE, WELL and MILESTONES are of no matter.
        x = new Caller("road p9l30,p9l30,p9;0=2;=0", "well(0)");
        e.dues(x, "meet(1, 0)", 2, "well(NONE)", 0, "move(0, 11)", 0);
        x.follow("heed(0)", "go() x11");
        e.dues(x, "meet(1, 0)", 2, "count(4)", 11);
    }

    private void meets(String text, int heed, int turns, int his, int others) {
        Caller x = new Caller("road " + text, "heed(" + heed + ")");
        e.is("turns on " + text + " by HEED " + heed, x.ask("meet(1, 0)"), turns);
        e.is("what he has on " + text + " by HEED " + heed, x.ask("meet(1, 1)"), his);
        e.is("what the other one has on " + text + " by HEED " + heed, x.ask("meet(1, 2)"), others);
    }

    private void part() {
        e.sentence(0, "They part when neither was GLAD one behind the other: how many turns (at most 200");
        // The least: neither is GLAD at the first turns.
        meets("p9l5,p9l5;=0", 99, 2, 0, 1);
        meets("p0,p0;=0", 99, 2, 0, 1);
        // He alone is GLAD at the first, then the other one and he are not.
        Caller x = new Caller("road b9l5,p9l5c5;=0", "go() x5");
        e.dues(x, "meet(1, 0)", 3, "meet(1, 1)", 1, "meet(1, 2)", 0);
        // By turns: the third is his; had for one turn more the other one would be GLAD.
        x = new Caller("road b9l1,p9l1c1;=0", "go()");
        e.dues(x, "meet(1, 0)", 3, "meet(1, 1)", 1, "meet(1, 2)", 0);
        // Not GLAD, GLAD, and then neither: no row of turns that ends is longer.
        meets("p0l8,p99l9;=0", 98, 4, 1, 0);
        // One who is not GLAD between two who are does not part them.
        meets("p9l8,p9l9;=0", 99, NONE, NONE, NONE);
        meets("p9l9,p9l8;=0", 99, NONE, NONE, NONE);
    }

    private void meetCall() {
        e.sentence(23, "MEET with a THING: turns (0), what he has then (1), what the other one has (2)");
        meets("p9l5,p8l5;=0", 0, 2, 0, 1);
        meets("p0l8,p99l9;=0", 0, 4, 1, 0);
        e.sentence(23, "BAD; NOT: somebody has it, he has nothing; NONE: they do not part");
        e.refused(BAD, RICH, "meet(-1, 0)", "meet(4, 0)", "meet(NONE, 0)", "meet(MIN, 0)", "meet(MAX, 0)", "meet(3, -1)",
            "meet(3, 3)", "meet(3, MIN)", "meet(3, MAX)", "meet(1, 3)");
        e.refused(NOT, RICH, "meet(0, 0)", "meet(1, 1)", "meet(2, 2)");
        e.refused(NOT, Edges.then(RICH, "take(NONE)"), "meet(0, 0)", "meet(1, 1)", "meet(3, 2)");
        e.refused(BAD, Edges.then(RICH, "take(NONE)"), "meet(4, 0)", "meet(3, 3)");
        e.refused(NONE, Edges.with("road p9l9,p9l8;=0", "go()"), "meet(1, 0)", "meet(1, 1)", "meet(1, 2)");
    }

    private void first() {
        e.sentence(0, "FIRST: THINGS that nobody has, with which in place of his (had as long; if he has none: 0)");
        // At MILESTONE 8 a BEAST had from the first on is FELT as 9.
        String[] nine = {"road b50,p40c8,b50,b50,p40,b39;8=1,11=4+20;=0"};
        e.dues(new Caller(nine), "first(1)", 1 << 2 | 1 << 3, "first(5)", 1 << 5, "first(0)", 0, "first(4)", 0);
        e.dues(new Caller("road b50,p40c9,b50;8=1;=0"), "first(1)", 0, "first(2)", 1 << 2);
        // Had as long: eight MILESTONES with his count for another in its place.
        e.dues(new Caller("road b50,p40c8,b50;8=1;=0", "go() x8"), "first(1)", 1 << 2);
        e.dues(new Caller("road b50,p40c8,b50;8=1;=0", "go() x7", "take(0)", "go()"), "first(1)", 0, "first(2)", 1 << 2);
        // If he has none: 0.
        e.dues(new Caller("road b50,p40c8,b50;8=1;=0", "go() x8", "take(NONE)"), "first(1)", 0, "first(0)", 1, "first(2)",
            1 << 2);
        e.dues(new Caller("road b50,p40c0,b50;8=1;=0", "go() x8", "take(NONE)"), "first(1)", 1 << 0 | 1 << 2);
        e.dues(new Caller("road p50l12,p40c0,b50;8=1;=0", "well(7)", "go() x8"), "first(1)", 1 << 0 | 1 << 2);
        // He would have it at home: not, if it is gone in the WELL.
        e.dues(new Caller("road p1,p1l10,p1l9;=0", "well(11)"), "first(1)", 0, "first(2)", 1 << 2);
        e.dues(new Caller("road p1,p2;=0", "go() x12"), "first(1)", 1 << 1, "first(0)", 0);
    }

    private void firstCall() {
        e.sentence(24, "FIRST for a THING");
        e.dues(new Caller("road p9,p8,p7,p6,p5,p4,p3,p2,p1,p0"), "first(0)", 1, "first(9)", 1 << 9);
        e.dues(new Caller("road p9l9,p9l9,p9l9,p9l9,p9l9,p9l9,p9l9,p9l9,p9l9,p0;5=9"), "first(9)", (1 << 9) - 1,
            "first(0)", 0);
        e.dues(new Caller("road p9;=0"), "first(0)", 0);
        e.sentence(24, "BAD");
        e.refused(BAD, RICH, "first(-1)", "first(4)", "first(NONE)", "first(MIN)", "first(MAX)");
    }

    private void cheated() {
        e.sentence(0, "CHEATED: of all HEEDS (0 .. 99) by which LOST is no more than a told number");
        // HEED 5 and more: 45; 15 and more: 30.
        Caller x = new Caller("road p50l9,p45l8,p30l7;0=1,1=2;=0");
        e.dues(x, "cheated(99)", 15, "cheated(20)", 15, "cheated(19)", 5, "cheated(5)", 5, "cheated(4)", 0, "cheated(0)", 0,
            "cheated(-1)", NONE, "cheated(-99)", NONE, "count(6)", 99);
        // The greatest HEED and the least.
        x = new Caller("road p99l9,p0l8;0=1;=0", "heed(3)");
        e.dues(x, "cheated(99)", 99, "cheated(98)", 0, "cheated(0)", 0, "count(6)", 3);
        x = new Caller("road p98l9,p0l8;0=1;=0");
        e.dues(x, "cheated(99)", 98, "cheated(98)", 98, "cheated(97)", 0);
        // Most that is no more than told: not the most of all, nor by the greatest HEED.
        x = new Caller("road p60l9,p40l6,p30l8,p25l7;0=2,1=1,2=3;=0");
        e.dues(x, "cheated(99)", 30, "cheated(35)", 30, "cheated(34)", 20, "cheated(20)", 20, "cheated(19)", 0);
        // What he loses by any HEED: in the WELL.
        x = new Caller("road p50l10;=0", "well(5)");
        e.dues(x, "cheated(50)", 0, "cheated(49)", NONE, "cheated(0)", NONE, "cheated(99)", 0);
        // A HEED that saves him from the WELL.
        x = new Caller("road p50l10,p40l9;3=1;=0", "well(5)");
        e.dues(x, "cheated(50)", 0, "cheated(49)", 10, "cheated(10)", 10, "cheated(9)", NONE);
    }

    private void cheatedCall() {
        e.sentence(25, "CHEATED of no more than v (-99 .. 99)");
        e.dues(new Caller("road p99l10;=0", "well(0)"), "cheated(99)", 0, "cheated(98)", NONE, "cheated(-99)", NONE);
        e.dues(new Caller("road p9l9,p9l8;0=1;=0"), "cheated(99)", 0, "cheated(0)", 0, "cheated(-1)", NONE);
        e.dues(new Caller(), "cheated(99)", 0, "cheated(0)", 0, "cheated(-99)", NONE);
        e.sentence(25, "BAD; NONE");
        e.refused(BAD, RICH, "cheated(-100)", "cheated(100)", "cheated(MIN)", "cheated(MAX)");
        e.refused(NONE, RICH, "cheated(-99)", "cheated(-1)");
        e.refused(NONE, RICH_AT_HOME, "cheated(-1)");
    }

    private void chance() {
        e.sentence(0, "CHANCE: at each MILESTONE from here on (10 at most left)");
        // CARE 4 is 8, more than LOAD 5 and than 7.
        Caller x = new Caller("road p50l5c4,p10l5c7;11=1;=0");
        e.dues(x, "chance(0, 0)", FULL, "go()", 0, "chance(0, 0)", FULL, "go()", 0);
        likely(x, 0, 1, 2);
        likely(x, 1, 1, 2);
        likely(x, NONE, 0, 1);
        x.follow("go() x9");
        likely(x, 0, 1, 2);
        x.follow("go()");
        likely(x, 0, 1, 1);
        likely(x, 1, 0, 1);
        likely(x, NONE, 0, 1);
        e.dues(x, "again()", 12, "chance(0, 0)", FULL);
        // At each MILESTONE anew, from here on: the tenth from the end is one.
        x = new Caller("road p9l5c4,p9l5c3;2=1;=0", "go() x2");
        likely(x, 1, 1, 2);
        x.follow("go()");
        likely(x, 1, 0, 1);
        // Nothing.
        likely(new Caller("road p9", "go() x2"), NONE, 1, 1);
        likely(new Caller("road p9", "go() x2"), 0, 0, 1);
        likely(new Caller("road p9l10;=0", "well(11)", "go() x2"), NONE, 1, 1);
        likely(new Caller("road p9l9;=0", "well(11)", "go() x2"), NONE, 0, 1);
        // Half of the time he has changed what the WELL would take.
        x = new Caller("road p9l10c6,p9l9c1,p9l11c9;5=2;=0", "well(6)", "go() x2");
        likely(x, 0, 0, 1);
        likely(x, NONE, 1, 1);
        x = new Caller("road p9l10c6,p9l9c1,p9l11c9;5=1;=0", "well(6)", "go() x2");
        likely(x, 1, 1, 1);
        x = new Caller("road p9l9c5,p9l10c9;5=1;=0", "well(6)", "go() x2");
        likely(x, 0, 1, 2);
        likely(x, NONE, 1, 2);
    }

    private void chanceOfCareAndOffers() {
        // For his MIND: twice 4 is LOAD's equal, and his MIND of LOAD; twice 5 is more.
        likely(new Caller("road p9l8c4,p9l8c1;5=1;=0", "go() x2"), 1, 0, 1);
        likely(new Caller("road p9l8c5,p9l8c1;5=1;=0", "go() x2"), 1, 1, 2);
        // For GLAD: twice 4 is more than 7, not more than 8; the offered one's as ever.
        likely(new Caller("road p9c4,p9l9c7;5=1;=0", "go() x2"), 1, 1, 2);
        likely(new Caller("road p9c4,p9l9c8;5=1;=0", "go() x2"), 1, 0, 1);
        likely(new Caller("road p9c4,p9l9c3;5=1;=0", "go() x2"), 1, 1, 1);
        // Twice what is FELT behind n: a BEAST's 0 and 6 are 12 at MILESTONE 5.
        likely(new Caller("road b9,p9l9c11;5=1;=0", "go() x2"), 1, 1, 2);
        likely(new Caller("road b9,p9l9c12;5=1;=0", "go() x2"), 1, 0, 1);
        // LOAD is as ever: by LOAD he is GLAD or not whatever his CARE is.
        likely(new Caller("road p9l9c1,p9l8c9;5=1;=0", "go() x2"), 1, 1, 1);
        likely(new Caller("road p9l9c1,p9l9c0;5=1;=0", "go() x2"), 1, 0, 1);
        // Whatever he has there: what he got from the first one is FELT so with the second one.
        Caller x = new Caller("road p50l5c4,p10l5c4,p5l5c6;11=1,11=2;=0", "go() x2");
        likely(x, 2, 1, 2);
        likely(x, 1, 0, 1);
        likely(x, 0, 1, 2);
        // WILLING and HEED are as ever.
        likely(new Caller("road p9c4,p9l9c3;5=1+1;=0", "go() x2"), 1, 0, 1);
        likely(new Caller("road p9c4,p8l9c3;5=1;=0", "heed(0)", "go() x2"), 1, 0, 1);
        // Each MILESTONE for itself: of four rows as likely two end with the last one's.
        x = new Caller("road p9l5c3,p9l5c3,p9l5c0;10=1,11=2;=0", "go() x10");
        likely(x, 2, 1, 2);
        likely(x, 1, 1, 4);
        likely(x, 0, 1, 4);
    }

    private void likely(Caller x, int thing, int upper, int lower) {
        e.dues(x, "chance(" + thing + ", 0)", upper, "chance(" + thing + ", 1)", lower);
    }

    private void chanceCall() {
        e.sentence(26, "CHANCE of a THING (or NONE): upper (0), lower number (1)");
        Caller x = new Caller("road p9l5c4,p8l5c7,p7l5c6;10=1,11=2;=0", "go() x2");
        likely(x, 2, 3, 4);
        likely(x, 1, 0, 1);
        likely(x, 0, 1, 4);
        likely(x, NONE, 0, 1);
        e.sentence(26, "BAD; FULL: more than 10 MILESTONES are left");
        e.refused(BAD, RICH, "chance(-1, 0)", "chance(4, 0)", "chance(-3, 0)", "chance(-5, 0)", "chance(MIN, 0)",
            "chance(MAX, 0)", "chance(0, -1)", "chance(0, 2)", "chance(NONE, 2)", "chance(0, MIN)", "chance(0, MAX)");
        String[] first = {"road b9,p8l9c3;5=1;=0"};
        e.refused(FULL, first, "chance(0, 0)", "chance(NONE, 1)");
        e.refused(FULL, Edges.then(first, "go()"), "chance(0, 0)", "chance(1, 1)");
        e.refused(BAD, Edges.then(first, "go()"), "chance(2, 0)", "chance(0, 2)");
        e.due(new Caller(Edges.then(first, "go() x2")), "chance(NONE, 1)", 1);
        e.refused(FULL, Edges.then(first, "go() x12", "again()"), "chance(0, 0)");
    }

    private void image() {
        e.sentence(27, "All but SHEETS, THE TAPE is kept as an IMAGE: 1");
        e.dues(new Caller(), "image()", 1, "image()", 1, "restore()", 1, "count(0)", 0, "count(2)", 0);
        // An empty road is kept, too, and a later IMAGE is in place of the first.
        Caller x = new Caller("image()", "road p1,p2;0=0;=1", "heed(3)", "well(4)", "go()");
        e.dues(x, "restore()", 1, "count(0)", 0, "count(1)", 0, "count(2)", 0, "count(3)", NONE, "count(6)", 99, "count(7)",
            NONE, "count(9)", 0);
        x = new Caller("road p1", "image()", "road p2,p3", "image()", "road p4,p5,p6");
        e.dues(x, "restore()", 1, "count(0)", 2);
        // Nothing but the IMAGE is changed; what is done behind it does not change the IMAGE.
        e.like(new Caller(Edges.then(RICH, "image()", "go() x3", "take(NONE)", "move(0, 7)", "heed(9)", "well(1)",
            "restore()")), "image, much, restore", Edges.then(RICH, "image()"));
        // SHEETS, THE TAPE are no part of it.
        x = new Caller("type p", "sheet(0, 0, 2)", "image()", "type 5", "item(0, 0, 0, 1)", "sheet(1, 1, 1)", "restore()");
        e.dues(x, "road()", 1, "of(0, 1)", 5, "drop(0)", 2, "drop(1)", 1);
    }

    private void restore() {
        e.sentence(28, "All is as it was then: 1");
        String[] then = {"road u90l25c2,b70l12,p60l1c9,m50c3;0=1,2+3,2=2+20;=0", "go()", "heed(50)", "well(9)"};
        String[] since = {"image()", "go() x2", "heed(40)", "well(8)", "move(1, 5)", "take(NONE)", "thing(0, 1, 2, 3)",
            "person(4, 3, 5)"};
        e.like(new Caller(Edges.then(Edges.then(then, since), "restore()")), "restore", Edges.then(then, "image()"));
        e.like(new Caller(Edges.then(Edges.then(then, since), "road p1", "restore()")), "restore behind a road",
            Edges.then(then, "image()"));
        // Again and again, since the IMAGE stays.
        e.like(new Caller(Edges.then(Edges.then(then, since), "restore()", "go()", "restore()")), "restore twice",
            Edges.then(then, "image()"));
        // MILESTONES that may be UNDONE are as many and the same ones as then.
        Caller x = new Caller("road b9l1;=0", "go() x9", "image()", "undo() x8", "take(NONE)", "go() x3", "restore()");
        for (int left = 7; left >= 0; left--) {
            e.dues(x, "undo()", left, "count(2)", 1 + left, "count(4)", 1 + left, "count(3)", 0);
        }
        e.due(x, "undo()", NONE);
        x = new Caller("road b9;=0", "image()", "go() x3", "restore()");
        e.dues(x, "undo()", NONE, "count(2)", 0, "count(8)", 0);
        x = new Caller("road b9l1;=0", "go() x8", "image()", "go() x4", "restore()", "go()", "undo()", "undo()");
        e.dues(x, "count(2)", 7, "count(9)", 6);
        e.sentence(28, "NONE: there is none");
        e.refused(NONE, Edges.with(), "restore()");
        e.refused(NONE, Edges.with("road b9,p8;3=1;=0", "heed(3)", "go() x2", "type p1", "sheet(0, 0, 1)"), "restore()");
    }
}
