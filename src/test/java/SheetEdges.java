/** A test for the sentence of 'Terms' on SEEN, and for each sentence of promises 29 to 35. */
final class SheetEdges {
    private static final int BAD = -1, NOT = -2, NONE = -4, NULL = -11, CAST = -12, INDEX = -13, SIZE = -14;
    private static final String[] RICH = Edges.RICH;
    /** SHEET 0 is of bytes, 1 of longs, 2 of bytes, 3 nothing. */
    private static final String[] ROWS = {"road p9l5c5,p8l4c5,p7l5c4,p6l4c4;0=1,1;=0", "sheet(0, 0, 5)",
        "item(0, 0, 0, 1)", "item(0, 0, 1, 2)", "item(0, 0, 2, 3)", "item(0, 0, 4, 9)", "sheet(1, 3, 3)", "sheet(2, 0, 16)",
        "item(2, 0, 15, 3)"};

    private final Edges e;

    SheetEdges(Edges e) {
        this.e = e;
    }

    void all() {
        minds();
        seen();
        seenRefused();
        film();
        filmRefused();
        deal();
        dealRefused();
        sheet();
        drop();
        item();
        lowestBits();
        copy();
        copyRefused();
    }

    private void minds() {
        e.sentence(0, "SEEN: a row of changes, each a THING given and one got");
        Caller x = new Caller("road p99l5c5,p0l4c5,p0l5c4,p0l4c4,b0l5c5,u0l5c5,m0l5c5", "heed(0)", "sheet(0, 2, 6)");
        change(x, 0, 1, 1);
        change(x, 0, 2, 2);
        change(x, 0, 3, 3);
        change(x, 0, 0, 0);
        change(x, 3, 0, 0);
        change(x, 1, 0, 0);
        change(x, 1, 2, 2);
        change(x, 2, 1, 1);
        // Both had for 0 MILESTONES: no KIND makes LOAD or CARE more.
        change(x, 4, 0, 0);
        change(x, 5, 0, 0);
        change(x, 6, 0, 0);
        change(x, 0, 4, 0);
        change(x, 4, 3, 3);
        x.follow("thing(0, 0, 6, 6)");
        change(x, 7, 4, 3);
        change(x, 7, 5, 3);
        change(x, 7, 6, 3);
        // In all of them.
        row(x, 3, 0, 3, 0, 3);
        row(x, 1, 0, 3, 0, 1);
        row(x, 2, 0, 2, 0, 3);
        row(x, 0, 0, 1, 0, 2);
        row(x, 0, 0, 0, 0, 3);
        row(x, 0, 0, 3, 3, 0);
    }

    private void change(Caller x, int given, int got, int minds) {
        x.follow("item(0, 2, 0, " + given + ")", "item(0, 2, 1, " + got + ")");
        e.is("MINDS of " + given + " given for " + got, x.ask("seen(0, 2, 0, 1)"), minds);
    }

    private void row(Caller x, int minds, int... items) {
        for (int i = 0; i < items.length; i++) {
            x.follow("item(0, 2, " + i + ", " + items[i] + ")");
        }
        e.is("MINDS of a row", x.ask("seen(0, 2, 0, " + items.length / 2 + ")"), minds);
    }

    private void seen() {
        e.sentence(29, "SEEN, n changes (1 .. 8), two items each of a SHEET, taken as a row of a LANE, from item i on");
        Caller x = new Caller(ROWS);
        // Of SHEET 2, each change but the last is 0 for 0 until it is written.
        for (int i = 0; i < 14; i += 2) {
            x.follow("item(2, 0, " + (i + 1) + ", 3)");
        }
        e.dues(x, "seen(2, 0, 0, 8)", 3, "seen(2, 0, 14, 1)", 3, "seen(2, 0, 0, 1)", 3, "item(2, 0, 15, 1)", 1,
            "seen(2, 0, 0, 8)", 1, "seen(2, 0, 0, 7)", 3, "seen(2, 0, 14, 1)", 1, "seen(2, 0, 2, 7)", 1, "item(2, 0, 1, 2)",
            1, "seen(2, 0, 0, 8)", 0, "seen(2, 0, 0, 1)", 2, "seen(2, 0, 2, 6)", 3);
        // From an odd item on, the got ones are given: 3 for 0.
        e.dues(x, "seen(2, 0, 3, 1)", 0);
        for (int lane = 0; lane <= 3; lane++) {
            Caller y = new Caller("road p0l1,p0", "sheet(3, " + lane + ", 2)", "item(3, " + lane + ", 1, 1)");
            e.due(y, "seen(3, " + lane + ", 0, 1)", 1);
        }
        e.changesNothing(ROWS, "seen(0, 0, 0, 1)", "seen(0, 0, 1, 1)", "seen(1, 3, 0, 1)");
    }

    private void seenRefused() {
        e.sentence(29, "BAD; NULL; CAST; INDEX; NOT: an item is no THING");
        e.refused(BAD, ROWS, "seen(-1, 0, 0, 1)", "seen(4, 0, 0, 1)", "seen(MIN, 0, 0, 1)", "seen(MAX, 0, 0, 1)",
            "seen(0, -1, 0, 1)", "seen(0, 4, 0, 1)", "seen(0, MIN, 0, 1)", "seen(0, MAX, 0, 1)", "seen(2, 0, 0, 0)",
            "seen(2, 0, 0, 9)", "seen(2, 0, 0, -1)", "seen(2, 0, 0, MIN)", "seen(2, 0, 0, MAX)", "seen(3, 0, 0, 0)",
            "seen(2, 0, -1, 1073741825)");
        e.refused(NULL, ROWS, "seen(3, 0, 0, 1)", "seen(3, 3, -1, 8)");
        e.refused(CAST, ROWS, "seen(0, 1, 0, 1)", "seen(0, 2, 0, 1)", "seen(0, 3, 0, 1)", "seen(1, 0, 9, 1)");
        e.refused(INDEX, ROWS, "seen(0, 0, -1, 1)", "seen(0, 0, 4, 1)", "seen(0, 0, 5, 1)", "seen(0, 0, 0, 3)",
            "seen(0, 0, 1, 3)", "seen(2, 0, 1, 8)", "seen(2, 0, 15, 1)", "seen(2, 0, 16, 1)", "seen(2, 0, MAX, 8)",
            "seen(2, 0, MIN, 8)", "seen(2, 0, -2, 1)", "seen(1, 3, 2, 1)");
        e.refused(INDEX, Edges.with("road p1", "sheet(0, 0, 0)", "sheet(1, 0, 1)"), "seen(0, 0, 0, 1)", "seen(1, 0, 0, 1)");
        e.refused(NOT, ROWS, "seen(0, 0, 3, 1)", "seen(0, 0, 1, 2)");
        e.dues(new Caller(ROWS), "seen(0, 0, 0, 2)", 0, "item(0, 0, 4, 3)", 1, "seen(0, 0, 3, 1)", 3);
        for (String no : new String[] {"4", "-1", "NONE", "LEAST", "MOST", "4294967296", "4294967297", "256"}) {
            Caller x = new Caller(Edges.then(ROWS, "item(1, 3, 2, " + no + ")"));
            e.dues(x, "seen(1, 3, 0, 1)", 0, "seen(1, 3, 1, 1)", NOT);
            x = new Caller(Edges.then(ROWS, "item(1, 3, 0, " + no + ")"));
            e.due(x, "seen(1, 3, 0, 1)", NOT);
        }
        e.refused(NOT, Edges.with("sheet(0, 0, 2)"), "seen(0, 0, 0, 1)");
    }

    private void film() {
        e.sentence(30, "What he has behind each MILESTONE from here on (NONE: nothing), an item each, comes to a SHEET");
        String[] begin = {"road p9l12,p9l11,p9l10;0=1,10=2;=0", "well(11)"};
        for (int lane = 0; lane <= 3; lane++) {
            String sheet = "sheet(3, " + lane + ", 16)";
            Caller x = new Caller(Edges.then(begin, sheet, "item(3, " + lane + ", 1, 7)", "item(3, " + lane + ", 14, 8)"));
            e.due(x, "film(3, " + lane + ", 2)", 12);
            e.like(x, "behind a film", Edges.then(begin, itemScript(lane, 0, 7, 1, 1, 1, 1, 1, 1, 1, 1, 1, 1, 2, NONE, 8, 0)));
        }
        // From here on: at the last MILESTONE one item, at home none, even of an empty row.
        Caller x = new Caller(Edges.then(begin, "sheet(3, 0, 1)", "go() x11"));
        e.due(x, "film(3, 0, 0)", 1);
        e.like(x, "behind a film of one", Edges.then(begin, "sheet(3, 0, 1)", "item(3, 0, 0, NONE)", "go() x11"));
        x = new Caller(Edges.then(begin, "sheet(3, 0, 0)", "go() x12"));
        e.due(x, "film(3, 0, 0)", 0);
        e.like(x, "behind a film of none", Edges.then(begin, "sheet(3, 0, 0)", "go() x12"));
        // CARE is as ever, neither twice nor none: 4 is no more than LOAD 5, 6 is.
        filmed("p9l5c4,p9l5c3;5=1;=0", 0, 0, 0, 0, 0, 0, 0, 0, 0, 0, 0, 0);
        filmed("p9l5c6,p9l5c5;5=1;=0", 0, 0, 0, 0, 0, 1, 1, 1, 1, 1, 1, 1);
        // He has nothing: NONE twelve times.
        x = new Caller("sheet(3, 1, 12)");
        e.due(x, "film(3, 1, 0)", 12);
        e.like(x, "behind a film of nothing", itemScript(1, NONE, NONE, NONE, NONE, NONE, NONE, NONE, NONE, NONE, NONE,
            NONE, NONE));
    }

    private void filmed(String text, int... items) {
        Caller x = new Caller("road " + text, "sheet(3, 0, 12)");
        e.due(x, "film(3, 0, 0)", 12);
        e.like(x, "behind a film on " + text, Edges.then(Edges.with("road " + text), itemScript(0, items)));
    }

    /** SHEET 3 with these items. */
    private static String[] itemScript(int lane, int... items) {
        String[] script = new String[items.length + 1];
        script[0] = "sheet(3, " + lane + ", " + items.length + ")";
        for (int i = 0; i < items.length; i++) {
            script[i + 1] = "item(3, " + lane + ", " + i + ", " + items[i] + ")";
        }
        return script;
    }

    private void filmRefused() {
        e.sentence(30, "BAD; NULL; CAST; INDEX");
        e.refused(BAD, ROWS, "film(-1, 0, 0)", "film(4, 0, 0)", "film(MIN, 0, 0)", "film(MAX, 0, 0)", "film(2, -1, 0)",
            "film(2, 4, 0)", "film(2, MIN, 0)", "film(2, MAX, 0)");
        e.refused(NULL, ROWS, "film(3, 0, 0)", "film(3, 3, -1)");
        e.refused(CAST, ROWS, "film(2, 1, 0)", "film(2, 2, 0)", "film(2, 3, 0)", "film(1, 0, 0)");
        e.refused(INDEX, ROWS, "film(2, 0, -1)", "film(2, 0, 5)", "film(2, 0, 16)", "film(2, 0, MIN)", "film(2, 0, MAX)",
            "film(0, 0, 0)", "film(1, 3, 0)");
        e.due(new Caller(ROWS), "film(2, 0, 4)", 12);
        String[] last = Edges.then(ROWS, "go() x11");
        e.due(new Caller(last), "film(2, 0, 15)", 1);
        e.refused(INDEX, last, "film(2, 0, 16)", "film(2, 0, -1)", "film(0, 0, 5)");
        e.due(new Caller(Edges.then(last, "go()")), "film(2, 0, 16)", 0);
        e.refused(INDEX, Edges.then(last, "go()"), "film(2, 0, 17)", "film(2, 0, -1)");
    }

    private void deal() {
        e.sentence(31, "What PEOPLE have is as items of a SHEET likewise, one for each (below 0: nothing): how many");
        Caller x = new Caller(ROWS);
        e.dues(x, "deal(0, 0, 0)", 2, "told(0, 1)", 1, "told(1, 1)", 2, "deal(0, 0, 1)", 2, "told(0, 1)", 2, "told(1, 1)", 3,
            "of(1, 4)", NONE, "of(3, 4)", 1, "count(3)", 0);
        for (int lane = 0; lane <= 3; lane++) {
            x = new Caller("road p1,p2,p3;0=1,1=0", "sheet(3, " + lane + ", 3)", "item(3, " + lane + ", 1, -1)",
                "item(3, " + lane + ", 2, 2)");
            e.dues(x, "deal(3, " + lane + ", 0)", 2, "told(0, 1)", 0, "told(1, 1)", NONE, "deal(3, " + lane + ", 1)", 2,
                "told(0, 1)", NONE, "told(1, 1)", 2, "of(0, 4)", NONE);
        }
        // Below 0, whatever it is; several may have nothing.
        for (String below : new String[] {"-1", "NONE", "-5", "LEAST", "MIN", "-4294967296"}) {
            x = new Caller(Edges.then(ROWS, "item(1, 3, 0, " + below + ")", "item(1, 3, 1, " + below + ")"));
            e.dues(x, "deal(1, 3, 0)", 2, "told(0, 1)", NONE, "told(1, 1)", NONE, "of(1, 4)", NONE);
        }
        // Eight, from the first and to the last item; none.
        x = new Caller("road p0,p1,p2,p3,p4,p5,p6,p7,p8,p9;0,0,0,0,0,0,0,0;=0", "sheet(0, 2, 16)");
        for (int i = 0; i < 8; i++) {
            x.follow("item(0, 2, " + (8 + i) + ", " + (9 - i) + ")");
        }
        e.due(x, "deal(0, 2, 8)", 8);
        for (int p = 0; p < 8; p++) {
            e.due(x, "told(" + p + ", 1)", 9 - p);
        }
        x = new Caller("road p1,p2", "sheet(0, 0, 0)", "sheet(1, 0, 16)");
        e.dues(x, "deal(0, 0, 0)", 0, "deal(1, 0, 16)", 0, "deal(1, 0, 0)", 0);
        // What PEOPLE have alone: who is where, what may be UNDONE and the SHEET stay.
        String[] before = Edges.then(ROWS, "heed(0)");
        x = new Caller(Edges.then(before, "go()", "deal(0, 0, 0)", "deal(0, 0, 1)"));
        e.dues(x, "count(9)", 1, "count(2)", 1, "count(3)", 0, "count(4)", 1, "count(8)", 0, "undo()", 0);
        e.like(x, "dealt and undone", before);
    }

    private void dealRefused() {
        e.sentence(31, "BAD; NULL; CAST; INDEX; NOT: an item is no THING, he has it, one comes twice");
        e.refused(BAD, ROWS, "deal(-1, 0, 0)", "deal(4, 0, 0)", "deal(MIN, 0, 0)", "deal(MAX, 0, 0)", "deal(0, -1, 0)",
            "deal(0, 4, 0)", "deal(0, MIN, 0)", "deal(0, MAX, 0)");
        e.refused(NULL, ROWS, "deal(3, 0, 0)", "deal(3, 3, -1)");
        e.refused(CAST, ROWS, "deal(0, 1, 0)", "deal(0, 2, 0)", "deal(0, 3, 9)", "deal(1, 0, 0)");
        e.refused(INDEX, ROWS, "deal(0, 0, -1)", "deal(0, 0, 4)", "deal(0, 0, 5)", "deal(0, 0, MIN)", "deal(0, 0, MAX)",
            "deal(2, 0, 15)", "deal(1, 3, 2)");
        // He has 0 (items 2 and 3 are 3 and 0), 9 is no THING (items 3 and 4).
        e.refused(NOT, ROWS, "deal(0, 0, 2)", "deal(0, 0, 3)", "deal(1, 3, 0)");
        e.refused(NOT, Edges.then(ROWS, "item(0, 0, 1, 1)"), "deal(0, 0, 0)");
        e.refused(NOT, Edges.then(ROWS, "item(0, 0, 1, 4)"), "deal(0, 0, 0)", "deal(0, 0, 1)");
        e.refused(NOT, Edges.then(ROWS, "take(NONE)"), "deal(1, 3, 0)", "deal(0, 0, 3)");
        e.dues(new Caller(Edges.then(ROWS, "take(NONE)")), "deal(0, 0, 2)", 2, "told(1, 1)", 0);
        for (String no : new String[] {"4", "MOST", "4294967296", "4294967297", "4294967298", "32", "256"}) {
            e.refused(NOT, Edges.then(ROWS, "item(1, 3, 0, 1)", "item(1, 3, 1, " + no + ")"), "deal(1, 3, 0)");
        }
        e.refused(INDEX, Edges.with("road p1;0", "sheet(0, 0, 0)"), "deal(0, 0, 0)");
        e.refused(INDEX, Edges.with("sheet(0, 0, 2)"), "deal(0, 0, 3)", "deal(0, 0, -1)");
    }

    private void sheet() {
        e.sentence(32, "A SHEET holds a new row of a LANE: n");
        for (int s = 0; s <= 3; s++) {
            Caller x = new Caller();
            e.dues(x, "sheet(" + s + ", " + s + ", 16)", 16, "drop(" + s + ")", 16, "sheet(" + s + ", 0, 0)", 0,
                "drop(" + s + ")", 0, "sheet(" + s + ", 3, 1)", 1, "sheet(" + s + ", 1, 7)", 7, "drop(" + s + ")", 7);
        }
        // New: each item is 0, of whatever LANE the row was, and other SHEETS stay.
        for (int lane = 0; lane <= 3; lane++) {
            Caller x = new Caller(Edges.then(itemScript(0, 1, 2, 3, 4), "sheet(2, 1, 1)", "item(2, 1, 0, 6)",
                "sheet(3, " + lane + ", 3)"));
            e.like(x, "a new row", Edges.then(itemScript(lane, 0, 0, 0), "sheet(2, 1, 1)", "item(2, 1, 0, 6)"));
        }
        // A row that is longer than the one before it, and one behind a drop.
        e.like(new Caller(Edges.then(itemScript(1, 1, 2, 3), "sheet(3, 1, 1)", "sheet(3, 1, 4)")), "a longer row",
            itemScript(1, 0, 0, 0, 0));
        e.like(new Caller(Edges.then(itemScript(1, 1, 2, 3), "drop(3)", "sheet(3, 1, 3)")), "a row behind a drop",
            itemScript(1, 0, 0, 0));
        e.sentence(32, "BAD: also n above 16; SIZE: n below 0");
        e.refused(BAD, RICH, "sheet(-1, 0, 1)", "sheet(4, 0, 1)", "sheet(MIN, 0, 1)", "sheet(MAX, 0, 1)", "sheet(0, -1, 1)",
            "sheet(0, 4, 1)", "sheet(0, MIN, 1)", "sheet(0, MAX, 1)", "sheet(0, 0, 17)", "sheet(0, 0, MAX)",
            "sheet(3, 0, 17)", "sheet(4, 0, -1)", "sheet(0, 4, -1)");
        e.refused(SIZE, RICH, "sheet(0, 0, -1)", "sheet(0, 3, MIN)", "sheet(3, 0, -1)");
    }

    private void drop() {
        e.sentence(33, "A SHEET holds nothing: how many items it had");
        Caller x = new Caller("sheet(0, 0, 16)", "sheet(1, 1, 0)", "sheet(2, 2, 1)", "sheet(3, 3, 15)");
        e.dues(x, "drop(0)", 16, "drop(1)", 0, "drop(3)", 15, "item(0, 0, 0, 1)", NULL, "item(1, 1, 0, 1)", NULL,
            "copy(2, 0, 3, 0, 1)", NULL, "item(2, 2, 0, 1)", 1, "drop(2)", 1);
        e.like(new Caller(Edges.then(RICH, "sheet(3, 0, 4)", "drop(3)")), "there and gone", RICH);
        e.sentence(33, "BAD; NULL");
        e.refused(BAD, RICH, "drop(-1)", "drop(4)", "drop(MIN)", "drop(MAX)");
        e.refused(NULL, RICH, "drop(3)");
        e.refused(NULL, Edges.then(RICH, "drop(0)"), "drop(0)");
        e.refused(NULL, Edges.then(RICH, "drop(2)"), "drop(2)", "drop(3)");
        e.refused(NULL, Edges.with(), "drop(0)", "drop(1)", "drop(2)", "drop(3)");
    }

    private void item() {
        e.sentence(34, "Item i of a SHEET, taken as a row of a LANE, becomes v, its lowest bits: 1");
        for (int lane = 0; lane <= 3; lane++) {
            Caller x = new Caller("sheet(3, " + lane + ", 4)");
            e.dues(x, "item(3, " + lane + ", 3, 9)", 1, "item(3, " + lane + ", 0, 8)", 1);
            e.like(x, "behind two items", itemScript(lane, 8, 0, 0, 9));
        }
        e.sentence(34, "BAD; NULL; CAST; INDEX");
        e.refused(BAD, ROWS, "item(-1, 0, 0, 1)", "item(4, 0, 0, 1)", "item(MIN, 0, 0, 1)", "item(MAX, 0, 0, 1)",
            "item(0, -1, 0, 1)", "item(0, 4, 0, 1)", "item(0, MIN, 0, 1)", "item(0, MAX, 0, 1)", "item(3, 4, 0, 1)");
        e.refused(NULL, ROWS, "item(3, 0, 0, 1)", "item(3, 3, -1, 1)");
        e.refused(CAST, ROWS, "item(0, 1, 0, 1)", "item(0, 2, 5, 1)", "item(0, 3, -1, 1)", "item(1, 0, 0, 1)",
            "item(1, 2, 0, 1)");
        e.refused(INDEX, ROWS, "item(0, 0, -1, 1)", "item(0, 0, 5, 1)", "item(0, 0, MIN, 1)", "item(0, 0, MAX, 1)",
            "item(1, 3, 3, 1)", "item(2, 0, 16, 1)");
        e.refused(INDEX, Edges.with("sheet(0, 0, 0)"), "item(0, 0, 0, 1)", "item(0, 0, -1, 1)");
        e.dues(new Caller(ROWS), "item(0, 0, 4, 1)", 1, "item(2, 0, 15, 1)", 1, "item(1, 3, 2, 1)", 1);
    }

    /** What v becomes: 2 is a THING, 120 and more none, and what is below 0 is nothing when it is dealt. */
    private void lowestBits() {
        e.sentence(34, "Item i of a SHEET, taken as a row of a LANE, becomes v, its lowest bits: 1");
        long[] beyond = {1L << 8, 1L << 16, 1L << 32};
        for (int lane = 0; lane <= 2; lane++) {
            long all = beyond[lane];
            dealt(lane, all, 0);
            dealt(lane, all + 2, 2);
            dealt(lane, -all, 0);
            dealt(lane, 2 - all, 2);
            dealt(lane, all / 2 - 1, NOT);
            dealt(lane, all / 2, NONE);
            dealt(lane, all - 1, NONE);
            dealt(lane, -1, NONE);
            dealt(lane, -all / 2, NONE);
            dealt(lane, -all / 2 - 1, NOT);
            dealt(lane, Long.MIN_VALUE, 0);
            dealt(lane, Long.MIN_VALUE + 2, 2);
            dealt(lane, Long.MAX_VALUE, NONE);
        }
        dealt(3, Long.MIN_VALUE, NONE);
        dealt(3, Long.MAX_VALUE, NOT);
        dealt(3, Long.MIN_VALUE + 2, NONE);
        dealt(3, (1L << 32) + 2, NOT);
        dealt(3, 2 - (1L << 32), NONE);
        dealt(3, 2, 2);
    }

    private void dealt(int lane, long v, int want) {
        Caller x = new Caller("road p0,p0,p0,p0;0=3", "sheet(0, " + lane + ", 1)");
        x.follow("item(0, " + lane + ", 0, " + v + ")");
        e.is("deal of " + v + " in LANE " + lane, x.ask("deal(0, " + lane + ", 0)"), want == NOT ? NOT : 1);
        e.is("what is dealt of " + v + " in LANE " + lane, x.ask("told(0, 1)"), want == NOT ? 3 : want);
    }

    private void copy() {
        e.sentence(35, "n items of a SHEET from i on come to another one (or the same) from j on, as if all were taken");
        for (int lane = 0; lane <= 3; lane++) {
            String[] begin = itemScript(lane, 1, 2, 3, 4, 5, 6);
            copied(Edges.then(begin, "copy(3, 0, 3, 1, 5)"), itemScript(lane, 1, 1, 2, 3, 4, 5));
            copied(Edges.then(begin, "copy(3, 1, 3, 0, 5)"), itemScript(lane, 2, 3, 4, 5, 6, 6));
            copied(Edges.then(begin, "copy(3, 0, 3, 2, 3)"), itemScript(lane, 1, 2, 1, 2, 3, 6));
            copied(Edges.then(begin, "copy(3, 0, 3, 0, 6)"), begin);
            copied(Edges.then(begin, "copy(3, 6, 3, 6, 0)"), begin);
            copied(Edges.then(begin, "copy(3, 0, 3, 6, 0)"), begin);
            copied(Edges.then(begin, "copy(3, 5, 3, 0, 1)"), itemScript(lane, 6, 2, 3, 4, 5, 6));
            String other = "sheet(0, " + lane + ", 3)";
            String[] filled = Edges.then(begin, other, "item(0, " + lane + ", 0, 7)", "item(0, " + lane + ", 1, 8)",
                "item(0, " + lane + ", 2, 9)");
            copied(Edges.then(filled, "copy(0, 0, 3, 3, 3)"), Edges.then(itemScript(lane, 1, 2, 3, 7, 8, 9), other,
                "item(0, " + lane + ", 0, 7)", "item(0, " + lane + ", 1, 8)", "item(0, " + lane + ", 2, 9)"));
            copied(Edges.then(filled, "copy(3, 4, 0, 1, 2)"), Edges.then(begin, other, "item(0, " + lane + ", 0, 7)",
                "item(0, " + lane + ", 1, 5)", "item(0, " + lane + ", 2, 6)"));
        }
        Caller x = new Caller("sheet(0, 0, 16)", "sheet(1, 0, 16)", "sheet(2, 0, 0)");
        e.dues(x, "copy(0, 0, 1, 0, 16)", 16, "copy(0, 0, 2, 0, 0)", 0, "copy(2, 0, 0, 16, 0)", 0, "copy(2, 0, 2, 0, 0)", 0);
        // What is copied is no longer one with what it was copied from.
        copied(Edges.then(itemScript(0, 1, 2), "sheet(0, 0, 2)", "copy(3, 0, 0, 0, 2)", "item(0, 0, 0, 9)"),
            Edges.then(itemScript(0, 1, 2), "sheet(0, 0, 2)", "item(0, 0, 0, 9)", "item(0, 0, 1, 2)"));
    }

    private void copied(String[] script, String[] like) {
        e.like(new Caller(script), script[script.length - 1], like);
    }

    private void copyRefused() {
        e.sentence(35, "BAD; NULL (either); CAST: of unlike LANES; INDEX");
        e.refused(BAD, ROWS, "copy(-1, 0, 0, 0, 1)", "copy(4, 0, 0, 0, 1)", "copy(MIN, 0, 0, 0, 1)", "copy(MAX, 0, 0, 0, 1)",
            "copy(0, 0, -1, 0, 1)", "copy(0, 0, 4, 0, 1)", "copy(0, 0, MIN, 0, 1)", "copy(0, 0, MAX, 0, 1)",
            "copy(3, 0, 4, 0, 1)", "copy(-1, 0, 3, 0, 1)");
        e.refused(NULL, ROWS, "copy(3, 0, 0, 0, 1)", "copy(0, 0, 3, 0, 1)", "copy(3, 0, 3, 0, 0)", "copy(1, 9, 3, 9, 9)");
        e.refused(CAST, ROWS, "copy(0, 0, 1, 0, 1)", "copy(1, 0, 0, 0, 1)", "copy(0, 0, 1, 0, 0)", "copy(1, -1, 2, -1, -1)");
        e.refused(INDEX, ROWS, "copy(0, -1, 2, 0, 1)", "copy(0, 5, 2, 0, 1)", "copy(0, 0, 2, 0, 6)", "copy(0, 1, 2, 0, 5)",
            "copy(0, MAX, 2, 0, 1)", "copy(0, MIN, 2, 0, 1)", "copy(0, 0, 2, -1, 1)", "copy(0, 0, 2, 16, 1)",
            "copy(0, 0, 2, 12, 5)", "copy(0, 0, 2, MAX, 1)", "copy(0, 0, 2, MIN, 1)", "copy(0, 0, 2, 0, -1)",
            "copy(0, 0, 2, 0, MIN)", "copy(0, 0, 2, 0, MAX)", "copy(0, MAX, 2, MAX, MAX)", "copy(0, 1, 2, 1, MAX)",
            "copy(0, 6, 2, 0, 0)", "copy(0, 0, 2, 17, 0)", "copy(0, -1, 2, 0, 0)", "copy(0, 0, 2, -1, 0)",
            "copy(2, 0, 0, 0, 6)", "copy(0, 0, 0, 1, 5)", "copy(0, 2, 2, 2, -2)");
        e.dues(new Caller(ROWS), "copy(0, 5, 2, 16, 0)", 0, "copy(0, 0, 2, 11, 5)", 5, "copy(0, 4, 2, 15, 1)", 1);
    }
}
