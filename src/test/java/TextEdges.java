/** A test for the sentences of 'Terms' on UNDONE, A ROAD and FAULTS. */
final class TextEdges {
    private static final int NOT = -2, FULL = -3, NONE = -4;
    private static final String TEN = "p0,p1,p2,p3,p4,p5,p6,p7,p8,p9";
    private static final String[] WALKED = {"road u90l25c2,b70l12,p60l1c9;0=1,2=2+20;=0", "heed(40)", "well(8)", "go() x2",
        "image()", "go()", "sheet(0, 0, 2)", "item(0, 0, 1, 1)"};

    private final Edges e;

    TextEdges(Edges e) {
        this.e = e;
    }

    void all() {
        undoneNumbers();
        undoneState();
        undoneNoMore();
        roadsLeastAndMost();
        roadsParts();
        roadInPlaceOfAll();
        faultsAtTheFirstLetter();
        faultsAtTheEnd();
        faultsOfBlanksAndNumbers();
        faultsOfThings();
    }

    private void undoneNumbers() {
        e.sentence(0, "UNDONE: the latest MILESTONE is as it had not been (8 are known, older ones lost)");
        Caller x = new Caller("road b9l1;=0");
        e.dues(x, "count(9)", 0, "undo()", NONE);
        for (int m = 1; m <= 12; m++) {
            e.dues(x, "go()", 0, "count(9)", Math.min(m, 8));
        }
        for (int left = 7; left >= 0; left--) {
            e.dues(x, "undo()", left, "count(9)", left, "count(2)", 4 + left, "count(4)", 4 + left);
        }
        e.dues(x, "undo()", NONE, "count(2)", 4, "go()", 0, "count(9)", 1, "undo()", 0, "count(2)", 4);
        x = new Caller("road b9l1;=0", "go() x8");
        for (int left = 7; left >= 0; left--) {
            e.dues(x, "undo()", left, "count(2)", left, "count(5)", left >= 2 ? 1 : 0);
        }
        e.dues(x, "undo()", NONE, "count(2)", 0, "count(4)", 0);
        // The ninth loses the first alone.
        x = new Caller("road b9l1;=0", "go() x9", "undo() x8");
        e.dues(x, "count(2)", 1, "undo()", NONE);
    }

    private void undoneState() {
        e.like(new Caller(Edges.then(Edges.RICH, "go()", "undo()")), "go, undo", Edges.RICH);
        e.like(new Caller(Edges.then(WALKED, "go() x5", "undo() x5")), "five go, five undo", WALKED);
        e.like(new Caller(Edges.then(WALKED, "go() x5", "undo() x2", "go() x2", "undo() x5")), "to and fro", WALKED);
        // Whatever was done since: what he took, what was dealt, where he is again; not what is no part of it.
        e.like(new Caller(Edges.then(WALKED, "go()", "take(NONE)", "deal(0, 0, 0)", "again()", "undo()")),
            "whatever was done since", WALKED);
        e.like(new Caller(Edges.then(WALKED, "go()", "heed(7)", "well(3)", "move(0, 4)", "undo()")),
            "what no milestone changes", Edges.then(WALKED, "heed(7)", "well(3)", "move(0, 4)"));
        Caller x = new Caller("road b9l1c1,p8l12,p7;0=1;=0", "well(0)");
        e.dues(x, "go()", 1, "count(3)", NONE, "count(8)", 1, "count(5)", 1, "told(0, 1)", 0);
        e.dues(x, "undo()", 0, "count(3)", 0, "count(8)", 0, "count(5)", 0, "told(0, 1)", 1, "count(2)", 0);
        // Ahead of it he had nothing, or had it long, wherever he went since.
        x = new Caller("road p9", "go()", "take(0)", "go()", "again()", "go()");
        e.dues(x, "undo()", 2, "count(2)", 0, "count(4)", 1, "undo()", 1, "count(2)", 1, "count(3)", 0, "count(4)", 0,
            "undo()", 0, "count(3)", NONE, "count(2)", 0);
    }

    private void undoneNoMore() {
        String[] others = {"thing(0, 1, 1, 1)", "person(0, NONE, 0)", "road p1,p2"};
        for (String other : others) {
            Caller x = new Caller(Edges.then(WALKED, other));
            e.dues(x, "count(9)", 0, "undo()", NONE, "count(9)", 0);
        }
        Caller x = new Caller(Edges.then(WALKED, "thing(0, 1, 1, 1)"));
        e.dues(x, "count(2)", 3, "go()", 0, "count(9)", 1, "undo()", 0, "count(2)", 3, "undo()", NONE);
        // None of them, so that all three MILESTONES may be UNDONE still.
        x = new Caller(Edges.then(WALKED, "take(NONE)", "heed(1)", "well(2)", "move(0, 3)", "again()", "deal(0, 0, 0)",
            "image()", "restore()"));
        e.dues(x, "thing(4, 0, 0, 0)", -1, "person(0, 1, 0)", NOT, "take(3)", -1);
        e.is("a fault", x.road("p1,"), -23);
        e.dues(x, "count(9)", 3, "undo()", 2);
        x = new Caller("road " + TEN + ";0,0,0,0,0,0,0,0", "go() x2");
        e.dues(x, "thing(0, 0, 0, 0)", FULL, "person(0, NONE, 0)", FULL, "count(9)", 2, "undo()", 1);
    }

    private void roadsLeastAndMost() {
        e.sentence(0, "A ROAD is a TEXT: 1 to 10 THINGS with , between");
        Caller x = new Caller();
        e.is("the shortest", x.road("p0"), 1);
        e.dues(x, "count(0)", 1, "count(1)", 0, "count(3)", NONE, "of(0, 0)", 0, "of(0, 1)", 0, "of(0, 2)", 0,
            "of(0, 3)", 0, "of(0, 4)", NONE);
        x = new Caller();
        e.is("ten and eight", x.road(TEN + ";0=9,0,0,0,0,0,0,11=0;=8"), 10);
        e.dues(x, "count(0)", 10, "count(1)", 8, "of(9, 1)", 9, "of(9, 4)", 0, "of(0, 4)", 7, "count(3)", 8,
            "told(7, 0)", 11);
        x = new Caller();
        e.is("the greatest numbers", x.road("m99l30c30;11=0+20"), 1);
        e.dues(x, "of(0, 0)", 3, "of(0, 1)", 99, "of(0, 2)", 30, "of(0, 3)", 30, "told(0, 0)", 11, "told(0, 1)", 0,
            "told(0, 2)", 20);
        x = new Caller();
        e.is("the least numbers", x.road("p0l0c0;0=0+0"), 1);
        e.dues(x, "of(0, 1)", 0, "of(0, 2)", 0, "of(0, 3)", 0, "told(0, 0)", 0, "told(0, 1)", 0, "told(0, 2)", 0);
        StringBuilder full = new StringBuilder("p1l2c3;4+5");
        while (full.length() < 120) {
            full.append(' ');
        }
        x = new Caller();
        e.is("120 letters", x.road(full.toString()), 1);
        e.dues(x, "of(0, 3)", 3, "told(0, 2)", 5);
    }

    private void roadsParts() {
        Caller x = new Caller();
        e.is("kinds, with and without their parts", x.road("p1,b2l3,u4c5,m6l7c8"), 4);
        int[][] of = {{0, 1, 0, 0}, {1, 2, 3, 0}, {2, 4, 0, 5}, {3, 6, 7, 8}};
        for (int t = 0; t < of.length; t++) {
            for (int what = 0; what < 4; what++) {
                e.due(x, "of(" + t + ", " + what + ")", of[t][what]);
            }
        }
        x = new Caller();
        e.is("people, with and without their parts", x.road("p1,p2,p3;1,2=2,3+4,5=0+6;=1"), 3);
        int[][] told = {{1, NONE, 0}, {2, 2, 0}, {3, NONE, 4}, {5, 0, 6}};
        for (int p = 0; p < told.length; p++) {
            for (int what = 0; what < 3; what++) {
                e.due(x, "told(" + p + ", " + what + ")", told[p][what]);
            }
        }
        e.dues(x, "count(3)", 1, "of(1, 4)", 8, "of(0, 4)", 3);
        x = new Caller();
        e.is("people left out with their ;", x.road("p1,p2;=1"), 2);
        e.dues(x, "count(1)", 0, "count(3)", 1);
        x = new Caller();
        e.is("his left out with its ;", x.road("p1,p2;7=1"), 2);
        e.dues(x, "count(1)", 1, "count(3)", NONE);
    }

    private void roadInPlaceOfAll() {
        Caller x = new Caller(Edges.then(WALKED, "road b1,m2;3=1;=0"));
        e.like(x, "a road in place of all", "road u90l25c2,b70l12,p60l1c9;0=1,2=2+20;=0", "heed(40)", "well(8)", "go() x2",
            "image()", "sheet(0, 0, 2)", "item(0, 0, 1, 1)", "road b1,m2;3=1;=0");
        x = new Caller("road b9l9c30,b9;3=1;=0", "heed(0)", "well(11)", "go() x4");
        e.dues(x, "count(2)", 4, "count(4)", 0, "count(5)", 1);
        x.follow("go()", "road p1");
        int[] counts = {1, 0, 0, NONE, 0, 0, 0, 11};
        for (int what = 0; what < counts.length; what++) {
            e.due(x, "count(" + what + ")", counts[what]);
        }
        e.dues(x, "count(9)", 0, "of(1, 0)", -1, "told(0, 0)", -1);
    }

    private void fault(String text, int place) {
        Caller x = new Caller(WALKED);
        e.is("'" + text + "'", x.road(text), -20 - place);
        e.like(x, "behind the fault of '" + text + "'", WALKED);
    }

    private void faultsAtTheFirstLetter() {
        e.sentence(0, "FAULTS: -20 less the place of the first letter (behind blanks) that can't stand there");
        Object[][] faults = {{"x1", 0}, {",p1", 0}, {"1", 0}, {";", 0}, {"=0", 0}, {"P1", 0}, {"~", 0}, {"l1", 0},
            {"pp", 1}, {"px", 1}, {"p,", 1}, {"p-1", 1}, {"p+1", 1}, {"p1x", 2}, {"p1p2", 2}, {"p1=0", 2}, {"p1+1", 2},
            {"p1.", 2}, {"p1ll", 3}, {"p1lc1", 3}, {"p1l,", 3}, {"p1c,", 3}, {"p1c1l1", 4}, {"p1l1l1", 4},
            {"p1c1c1", 4}, {"p1l1p", 4}, {"p1,1", 3}, {"p1,,p1", 3}, {"p1,;0", 3}, {"p1;;=0", 3}, {"p1;p1", 3},
            {"p1;x", 3}, {"p1;,0", 3}, {"p1;+1", 3}, {"p1;0x", 4}, {"p1;0p1", 4}, {"p1;0==0", 5}, {"p1;0=x", 5},
            {"p1;0=,", 5}, {"p1;0=:", 5}, {"p1;0=/", 5}, {"p1;0++", 5}, {"p1;0+1=0", 6}, {"p1;0=0=0", 6},
            {"p1;0+1+1", 6}, {"p1;0,x", 5}, {"p1;0,;=0", 5}, {"p1;0,=0", 5}, {"p1;0;;=0", 5}, {"p1;0;0", 5},
            {"p1;0;x", 5}, {"p1;0;=x", 6}, {"p1;=x", 4}, {"p1;=0;0", 5}, {"p1;=0,", 5}, {"p1;=0+1", 5},
            {"p1;=0;", 5}, {"p1;0;=0;", 7}, {"p1;0;=0x", 7},
            {TEN + ",p1", 29}, {TEN + ",", 29}, {TEN + "x", 29}, {"p1;0,0,0,0,0,0,0,0,0", 18},
            {"p1;0,0,0,0,0,0,0,0,", 18}};
        for (Object[] f : faults) {
            fault((String) f[0], (Integer) f[1]);
        }
    }

    private void faultsAtTheEnd() {
        Object[][] faults = {{"", 0}, {" ", 1}, {"p", 1}, {"p ", 2}, {"p1,", 3}, {"p1, ", 4}, {"p1l", 3}, {"p1c", 3},
            {"p1l1c", 5}, {"p1;", 3}, {"p1;  ", 5}, {"p1;0=", 5}, {"p1;0= ", 6}, {"p1;0+", 5}, {"p1;0=0+", 7},
            {"p1;0,", 5}, {"p1;0;", 5}, {"p1;=", 4}, {"p1;= ", 5}, {"p1;0;=", 6}, {TEN + ";", 30},
            {"p1;0,0,0,0,0,0,0,0;", 19}};
        for (Object[] f : faults) {
            fault((String) f[0], (Integer) f[1]);
        }
        StringBuilder blanks = new StringBuilder();
        for (int i = 0; i < 119; i++) {
            blanks.append(' ');
        }
        e.is("119 blanks and a letter more", new Caller().road(blanks + "p"), -140);
        e.is("120 blanks", new Caller().road(blanks + " "), -140);
        e.is("119 blanks and what can't stand there", new Caller().road(blanks + "x"), -139);
    }

    private void faultsOfBlanksAndNumbers() {
        Object[][] faults = {{"  x", 2}, {"p  x", 3}, {"p1  x", 4}, {" p 1 , x", 7}, {"p1 ;  x", 6}, {"p1;0 =  x", 8},
            {"p1;0;  x", 7}, {"p1 0", 3}, {"p1  0", 4}, {"p1l1 0", 5}, {"p1c1 0", 5}, {"p1;1 0", 5}, {"p1;0+1 0", 7},
            {"p1;0=0 0", 7}, {"p1;=0 0", 6},
            {"p100", 1}, {"p 100", 2}, {"p100x", 1}, {"p0100", 1}, {"p1l31", 3}, {"p1l 31", 4}, {"p1c31", 3},
            {"p1l1c31", 5}, {"p1;12", 3}, {"p1; 12", 4}, {"p1;0,12", 5}, {"p1;0+21", 5}, {"p1;0+ 21", 6},
            {"p4294967297", 1}, {"p18446744073709551617", 1}, {"p1l4294967296", 3}, {"p1;4294967296", 3},
            {"p1;0+99999999999999999999999999", 5}};
        for (Object[] f : faults) {
            fault((String) f[0], (Integer) f[1]);
        }
        Caller x = new Caller();
        e.is("blanks count for nothing", x.road("  p  1  l 2  c  3 , b 4 ;  5  =  1 +  6  ;  =  0  "), 2);
        e.dues(x, "of(0, 1)", 1, "of(0, 2)", 2, "of(0, 3)", 3, "of(1, 0)", 1, "of(1, 1)", 4, "told(0, 0)", 5,
            "told(0, 1)", 1, "told(0, 2)", 6, "count(3)", 0);
        x = new Caller();
        e.is("zeros ahead of a number", x.road("p099l030c0000000000030;011+00020"), 1);
        e.dues(x, "of(0, 1)", 99, "of(0, 2)", 30, "of(0, 3)", 30, "told(0, 0)", 11, "told(0, 2)", 20);
    }

    private void faultsOfThings() {
        Object[][] faults = {{"p1;0=0,1=0", 9}, {"p1;0=0,1= 0", 10}, {"p1;0=0;=0", 8}, {"p1;0=0;= 0", 9},
            {"p1,p2;0=1,0=0;=1", 15}, {"p1;0=1", 5}, {"p1;=1", 4}, {"p1;0;=1", 6}, {"p1;0=9", 5}, {"p1,p2;0=2", 8},
            {"p0,p1,p2,p3,p4,p5,p6,p7,p8;0=9", 29}, {"p1,p2;0=01", 9}, {"p1,p2;=01", 8}, {"p1,p2;0=10", 9}};
        for (Object[] f : faults) {
            fault((String) f[0], (Integer) f[1]);
        }
        e.is("the tenth of ten", new Caller().road(TEN + ";0=9"), 10);
        // What was had ahead of the ROAD is had no more, so each of its THINGS may be had anew.
        e.is("a road in place of another", new Caller(WALKED).road("p1,p2,p3;0=0,0=1;=2"), 3);
    }
}
