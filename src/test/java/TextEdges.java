/** Boundary cases of promises 1 to 7, and of what a TEXT and LAID are (part 1). */
final class TextEdges extends Edges {
    private static final String FIRST_TEXT =
        "d0,4,10,9;d0,4,10,0;d1,3,5,9;d2,3,1,9;d3,2,20,1;p0,25;p3,22;g1,1;g4,2;o9,1;w1;h3;";
    private static final String EIGHT = times(8, "d0,0,1,9;");
    // 200 letters: 72 of desks, 120 of where one is OFF, 5 of the OBOE, 3 of the hall.
    private static final String FULL_TEXT = EIGHT + times(20, "p0,20;") + "o9,0;w1;";

    private TextEdges(Due due) {
        super(due);
    }

    static void run(Due due) {
        TextEdges edges = new TextEdges(due);
        edges.aNewObject();
        edges.writing();
        edges.wiping();
        edges.items();
        edges.numbers();
        edges.deskItems();
        edges.groupItems();
        edges.offItems();
        edges.oboeItems();
        edges.hallItems();
        edges.withoutItems();
        edges.lastItems();
        edges.firstFault();
        edges.laying();
        edges.layingRefused();
        edges.layingAnew();
        edges.askingOfDesks();
        edges.askingHowFarOff();
    }

    private void faultIs(String text, int want) {
        RoundOfTheA x = written(text);
        is("letters of '" + text + "'", x.count(6), text.length());
        is("fault of '" + text + "'", x.fault(), want);
    }

    private void faultsAre(int want, String... texts) {
        for (String text : texts) faultIs(text, want);
    }

    private void aNewObject() {
        holds("P1: as told: the first text is LAID", () -> {
            RoundOfTheA told = new RoundOfTheA();
            RoundOfTheA x = laid(FIRST_TEXT);
            x.wipe();
            is("tune", told.tune(31), x.tune(31));
            is("minutes", told.minutes(2), x.minutes(2));
            alike("the first text", told, x);
        });
        holds("P1: THE TEXT is empty", () -> {
            RoundOfTheA x = new RoundOfTheA();
            is("letters", x.count(6), 0);
            is("fault", x.fault(), NONE);
            is("lay", x.lay(), NO);
            is("wipe", x.wipe(), 0);
            is("the first letter", x.write('d'), 1);
        });
        holds("P1: nothing is UNDONE, KEPT, HEARD TOGETHER at first", () -> {
            RoundOfTheA x = new RoundOfTheA();
            is("undo", x.undo(), NO);
            is("back", x.back(), NO);
            is("forget", x.forget(), 0);
            is("SECONDS", x.count(1), 0);
        });
        holds("an object is used for at most 512 calls: the last of them", () -> {
            RoundOfTheA x = new RoundOfTheA();
            for (int i = 0; i < 511; i++) x.tune(16);
            is("SECONDS", x.count(1), 511 * 20);
        });
    }

    private void writing() {
        holds("P2: a letter (32 to 126): the ends", () -> {
            RoundOfTheA x = new RoundOfTheA();
            is("write(32)", x.write(32), 1);
            is("write(126)", x.write(126), 2);
        });
        holds("P2: a letter (32 to 126), BAD else", () -> {
            RoundOfTheA x = new RoundOfTheA();
            for (int letter : new int[] {31, 127, 0, -1, 9, 10, 128, 255, 256 + 'd', 65536 + 'd', -100, MIN, MAX}) {
                is("write(" + letter + ")", x.write(letter), BAD);
            }
            is("letters", x.count(6), 0);
        });
        holds("P2: how long it is: 1 to 200 (200 letters at most)", () -> {
            RoundOfTheA x = new RoundOfTheA();
            for (int i = 1; i <= 200; i++) is("letter " + i, x.write('x'), i);
        });
        holds("P2: FULL", () -> {
            leavesAll("write of letter 201", FULL, x -> writeAll(x, FULL_TEXT), x -> x.write(';'));
            RoundOfTheA x = written(FULL_TEXT);
            x.write('d');
            is("fault", x.fault(), NONE);
            is("lay", x.lay(), 8);
        });
        holds("P2: BAD; FULL: of several the first", () -> {
            RoundOfTheA x = written(FULL_TEXT);
            is("write(127) with 200 letters", x.write(127), BAD);
            is("write(31) with 200 letters", x.write(31), BAD);
        });
        holds("P2: BAD: nothing changes", () -> leavesAll("write(127)", BAD, Edges::lived, x -> x.write(127)));
    }

    private void wiping() {
        holds("P3: how long it was: empty", () -> {
            RoundOfTheA x = new RoundOfTheA();
            is("wipe", x.wipe(), 0);
            is("wipe again", x.wipe(), 0);
        });
        holds("P3: how long it was: full", () -> {
            RoundOfTheA x = written(FULL_TEXT);
            is("wipe", x.wipe(), 200);
            is("letters", x.count(6), 0);
        });
        holds("P3: THE TEXT is empty then, with room for 200", () -> {
            RoundOfTheA x = written(times(200, "x"));
            x.wipe();
            is("fault", x.fault(), NONE);
            is("lay", x.lay(), NO);
            is("write", x.write('x'), 1);
            for (int i = 2; i <= 200; i++) x.write('x');
            is("write of letter 201", x.write('x'), FULL);
        });
        holds("P3: no letter of the text before comes back", () -> {
            RoundOfTheA x = written("d0,0,1,9;");
            x.wipe();
            x.write('d');
            is("fault", x.fault(), 0);
        });
        holds("P3: the hall stays", () -> {
            RoundOfTheA x = new RoundOfTheA();
            x.tune(1);
            x.wipe();
            is("DESKS, SECONDS, UNDONE", x.count(0) * 1000 + x.count(1) * 10 + x.count(4), 5101);
        });
    }

    private void items() {
        holds("P4: NONE: the empty text", () -> faultIs("", NONE));
        holds("P4: NONE: a text of 200 letters", () -> faultIs(FULL_TEXT, NONE));
        holds("P4: the ITEM that has no room for its ; among 200 letters", () ->
            faultIs(EIGHT + times(20, "p0,20;") + "o9,0;w1,", 197));
        holds("P4: a text without a DESK can be without FAULT", () -> faultsAre(NONE, "w1;", "h3;", "o9,0;"));
        holds("T1: ITEMS begin with a letter that is told: the others", () -> {
            for (char letter = 32; letter <= 126; letter++) {
                if (letter != 'w' && letter != 'h') faultIs(letter + "1;", 0);
                if (letter != 'o') faultIs(letter + "9,0;", 0);
                if (letter != 'd') faultIs(letter + "0,0,1,9;", 0);
            }
        });
        holds("T1: each a letter, then numbers: none of them", () -> faultsAre(0, "d", "g", "p", "o", "w", "h", "d;", "o;", "w;", "h;"));
        holds("T1: each a letter: numbers without it", () -> faultsAre(0, "1;", "9,0;", "0,0,1,9;", ";", ","));
        holds("T1: one behind the other: nothing is between them", () -> {
            faultsAre(0, " w1;", ";w1;", ",w1;");
            faultsAre(3, "w1; w1;", "w1;;w1;", "w1;,w1;", "w1; ", "w1;;");
        });
        holds("T1: parted by ,", () -> faultsAre(0, "o9;0;", "o9.0;", "o9 0;", "o9, 0;", "o9 ,0;", "o9,,0;", "d0,0,1;9;", "d0;0,1,9;", "o9-0;"));
        holds("T1: a ; behind the last one", () -> faultsAre(0, "w1", "w1,", "w1:", "w1 ;", "w1.", "o9,0", "o9,0,", "d0,0,1,9", "d0,0,1,9,"));
        holds("T1: numbers too few", () -> {
            faultsAre(0, "o9;", "d0;", "d0,0;", "d0,0,1;");
            faultsAre(9, "d0,0,1,9;g0;", "d0,0,1,9;p0;");
        });
        holds("T1: numbers too many", () -> {
            faultsAre(0, "w1,1;", "h3,3;", "o9,0,0;", "d0,0,1,9,0;");
            faultsAre(9, "d0,0,1,9;g0,0,0;", "d0,0,1,9;p0,20,0;");
        });
    }

    private void numbers() {
        holds("T1: one or two figures: none", () ->
            faultsAre(0, "w;", "h;", "o,0;", "o9,;", "d,0,1,9;", "d0,,1,9;", "d0,0,,9;", "d0,0,1,;"));
        holds("T1: one or two figures: three", () -> {
            faultsAre(0, "w001;", "h003;", "h100;", "o009,0;", "o9,000;", "d000,0,1,9;", "d0,000,1,9;", "d0,0,001,9;", "d0,0,100,9;", "d0,0,1,009;");
            faultsAre(9, "d0,0,1,9;g000,0;", "d0,0,1,9;g0,000;", "d0,0,1,9;p000,0;", "d0,0,1,9;p0,020;");
        });
        holds("T1: one or two figures: two, with a nought ahead, too", () ->
            faultsAre(NONE, "w01;", "h03;", "o09,00;", "d00,06,01,09;", "d0,0,1,9;g00,04;p00,09;"));
        holds("T1: numbers are figures alone", () ->
            faultsAre(0, "w-1;", "w+1;", "wx;", "w1x;", "w 1;", "h1.;", "o-9,0;", "o9,-0;", "d0,-1,1,9;", "hA;", "h/;", "h:;"));
    }

    private void deskItems() {
        holds("T1: KIND K (0 .. 3)", () -> {
            faultsAre(NONE, "d0,0,1,9;", "d1,0,1,9;", "d2,0,1,9;", "d3,0,1,9;");
            faultsAre(0, "d4,0,1,9;", "d9,0,1,9;", "d10,0,1,9;", "d99,0,1,9;");
        });
        holds("T1: LEANS by L (0 to 6)", () -> {
            faultsAre(NONE, "d0,0,1,9;", "d0,6,1,9;");
            faultsAre(0, "d0,7,1,9;", "d0,10,1,9;", "d0,99,1,9;");
        });
        holds("T1: tunes in T (1 to 60) seconds", () -> {
            faultsAre(NONE, "d0,0,1,9;", "d0,0,60,9;");
            faultsAre(0, "d0,0,0,9;", "d0,0,00,9;", "d0,0,61,9;", "d0,0,99,9;");
        });
        holds("T1: HEARS DESK H (0 to 7), a NEEDLE (8) or the OBOE (9)", () -> {
            for (int whom = 0; whom <= 9; whom++) faultIs("d0,0,1," + whom + ";", NONE);
            faultsAre(0, "d0,0,1,10;", "d0,0,1,11;", "d0,0,1,99;");
        });
        holds("T1: 8 at most", () -> {
            faultIs(EIGHT, NONE);
            faultIs(EIGHT + "d0,0,1,9;", 72);
            faultIs(EIGHT + "w1;d0,0,1,9;", 75);
        });
    }

    private void groupItems() {
        holds("T1: g: DESK I (told ahead): none is told yet", () -> faultsAre(0, "g0,0;", "g0,1;d0,0,1,9;"));
        holds("T1: g: DESK I (told ahead): the ends", () -> {
            faultIs("d0,0,1,9;g0,1;", NONE);
            faultIs("d0,0,1,9;g1,1;", 9);
            faultIs("d0,0,1,9;g1,1;d0,0,1,9;", 9);
            faultIs("d0,0,1,9;d0,0,1,9;g1,1;", NONE);
            faultIs(EIGHT + "g7,1;", NONE);
            faultsAre(72, EIGHT + "g8,1;", EIGHT + "g9,1;", EIGHT + "g99,1;");
        });
        holds("T1: in GROUP K (0 to 4)", () -> {
            faultsAre(NONE, "d0,0,1,9;g0,0;", "d0,0,1,9;g0,4;");
            faultsAre(9, "d0,0,1,9;g0,5;", "d0,0,1,9;g0,10;", "d0,0,1,9;g0,99;");
        });
    }

    private void offItems() {
        holds("T1: p: DESK I (told ahead): none is told yet", () -> faultsAre(0, "p0,0;", "p0,20;d0,0,1,9;"));
        holds("T1: p: DESK I (told ahead): the ends", () -> {
            faultIs("d0,0,1,9;p0,1;", NONE);
            faultIs("d0,0,1,9;p1,1;", 9);
            faultIs("d0,0,1,9;p1,1;d0,0,1,9;", 9);
            faultIs("d0,0,1,9;d0,0,1,9;p1,1;", NONE);
            faultIs(EIGHT + "p7,1;", NONE);
            faultsAre(72, EIGHT + "p8,1;", EIGHT + "p9,1;", EIGHT + "p99,1;");
        });
        holds("T1: told ahead in THE TEXT, not in the hall that stands", () -> faultsAre(0, "p4,20;", "g4,1;"));
        holds("T1: OFF by P (0 to 40)", () -> {
            faultsAre(NONE, "d0,0,1,9;p0,0;", "d0,0,1,9;p0,40;");
            faultsAre(9, "d0,0,1,9;p0,41;", "d0,0,1,9;p0,99;");
        });
        holds("T1: by P less 20 HAIRS", () -> offsAre(laid("d0,0,1,9;d1,0,1,9;d2,0,1,9;p0,0;p1,20;p2,40;"), -20, 0, 20));
    }

    private void oboeItems() {
        holds("T1: the OBOE is OFF by G (0 to 18)", () -> {
            faultsAre(NONE, "o0,0;", "o18,0;");
            faultsAre(0, "o19,0;", "o99,0;");
        });
        holds("T1: by G less 9 HAIRS", () -> {
            oboeIs(laid("d0,0,1,9;o0,0;"), -9);
            oboeIs(laid("d0,0,1,9;o9,0;"), 0);
            oboeIs(laid("d0,0,1,9;o18,0;"), 9);
        });
        holds("T1: slips by S (0 to 3)", () -> {
            faultsAre(NONE, "o9,0;", "o9,3;");
            faultsAre(0, "o9,4;", "o9,10;", "o9,99;");
            RoundOfTheA x = laid("d0,3,1,9;o9,3;");
            x.tune(1);
            oboeIs(x, 3);
        });
    }

    private void hallItems() {
        holds("T1: B (0 to 3) degrees warmer", () -> {
            faultsAre(NONE, "w0;", "w3;");
            faultsAre(0, "w4;", "w10;", "w99;");
        });
        holds("T1: apart by more than D (1 to 20)", () -> {
            faultsAre(NONE, "h1;", "h20;");
            faultsAre(0, "h0;", "h00;", "h21;", "h99;");
            is("D", laid("d0,3,1,9;h1;").count(7), 1);
            is("D", laid("d0,3,1,9;h20;").count(7), 20);
        });
    }

    private void withoutItems() {
        holds("T1: GROUP: 0 without", () -> is("GROUP", laid("d0,3,1,9;d0,3,1,9;g0,3;").desk(1, 4), 0));
        holds("T1: OFF: 20 without", () -> offsAre(laid("d0,3,1,9;d0,3,1,9;p0,3;"), -17, 0));
        holds("T1: the OBOE: 9 without", () -> oboeIs(laid("d0,3,1,9;"), 0));
        holds("T1: slips: 0 without", () -> {
            RoundOfTheA x = laid("d0,3,1,9;");
            x.tune(1);
            oboeIs(x, 0);
        });
        holds("T1: warmer: 1 without", () -> {
            RoundOfTheA x = laid("d0,3,1,9;d1,3,1,9;d3,3,1,9;");
            x.minutes(1);
            offsAre(x, -1, 1, -2);
            is("degrees", x.count(2), 1);
        });
        holds("T1: D: 3 without", () -> is("D", laid("d0,3,1,9;").count(7), 3));
    }

    private void lastItems() {
        holds("T1: GROUP: the last one of each", () -> {
            RoundOfTheA x = laid("d0,3,1,9;d0,3,1,9;g0,4;g1,2;g0,0;g0,3;");
            is("GROUP of desk 0", x.desk(0, 4), 3);
            is("GROUP of desk 1", x.desk(1, 4), 2);
        });
        holds("T1: OFF: the last one of each", () -> offsAre(laid("d0,3,1,9;d0,3,1,9;p0,40;p1,22;p0,0;p0,15;"), -5, 2));
        holds("T1: the OBOE: of several the last one counts, both numbers", () -> {
            RoundOfTheA x = laid("d0,3,1,9;o18,3;o0,0;");
            x.tune(1);
            oboeIs(x, -9);
        });
        holds("T1: warmer: of several the last one counts", () -> {
            RoundOfTheA x = laid("d0,3,1,9;w3;w0;w2;");
            x.minutes(1);
            offsAre(x, -2);
        });
        holds("T1: D: of several the last one counts", () -> is("D", laid("d0,3,1,9;h20;h1;h7;").count(7), 7));
        holds("T1: of several each has to be so, not the last one alone", () -> faultIs("w4;w1;", 0));
    }

    private void firstFault() {
        holds("T1: the place of the first letter of that ITEM", () -> {
            faultIs("d0,0,1,9;d0,0,1,10;", 9);
            faultIs("d0,0,1,9;d0,0,1,8;p1,41;", 18);
            faultIs("w1;w1;w", 6);
        });
        holds("T1: the first ITEM of several that are not so", () -> {
            faultIs("w1;w4;h0;", 3);
            faultIs("x;w4;", 0);
        });
        holds("P4: it asks and changes nothing", () -> {
            RoundOfTheA x = written("w1;d0,0,1,9;h0;");
            is("fault", x.fault(), 12);
            is("fault again", x.fault(), 12);
            leavesAll("fault of w4;", 9, Edges::lived, y -> y.fault());
        });
    }

    private void laying() {
        holds("P5: how many DESKS: 1", () -> is("DESKS", laid("d0,3,1,9;").count(0), 1));
        holds("P5: how many DESKS: 8", () -> is("DESKS", laid(EIGHT).count(0), 8));
        holds("P5: a text of 200 letters", () -> is("DESKS", laid(FULL_TEXT).count(0), 8));
        holds("T1: HEARING another DESK that there is: one told later, too", () -> {
            RoundOfTheA x = laid("d0,3,1,7;" + times(7, "d0,3,1,0;"));
            is("desk 0 HEARS", x.desk(0, 3), 7);
            is("desk 7 HEARS", x.desk(7, 3), 0);
        });
        holds("T1: HEARING a NEEDLE or the OBOE", () -> {
            is("a NEEDLE", laid("d0,3,1,8;").desk(0, 3), 8);
            is("the OBOE", laid("d0,3,1,9;").desk(0, 3), 9);
        });
    }

    private void layIsNo(String text) {
        leavesAll("lay of '" + text + "'", NO, x -> {
            lived(x);
            x.wipe();
            writeAll(x, text);
        }, x -> x.lay());
    }

    private void layingRefused() {
        holds("P5: NO: an empty text has no DESK", () -> layIsNo(""));
        holds("P5: NO: a text of other ITEMS has no DESK", () -> layIsNo("o9,0;w1;h3;"));
        holds("P5: NO: a FAULT at the first ITEM", () -> layIsNo("x;d0,3,1,9;"));
        holds("P5: NO: a FAULT at the last ITEM", () -> layIsNo("d0,3,1,9;w4;"));
        holds("P5: NO: the last ITEM has no ;", () -> layIsNo("d0,3,1,9"));
        holds("P5: NO: a ninth DESK", () -> layIsNo(EIGHT + "d0,3,1,9;"));
        holds("P5: NO: a DESK HEARS itself", () -> {
            layIsNo("d0,3,1,0;");
            layIsNo("d0,3,1,9;d0,3,1,1;");
            layIsNo(times(7, "d0,3,1,9;") + "d0,3,1,7;");
        });
        holds("P5: NO: a DESK HEARS one that there is not", () -> {
            layIsNo("d0,3,1,1;");
            layIsNo("d0,3,1,7;");
            layIsNo("d0,3,1,2;d0,3,1,0;");
            layIsNo("d0,3,1,9;d0,3,1,4;");
        });
    }

    private void layingAnew() {
        holds("P5: no SECONDS", () -> {
            RoundOfTheA x = written("d0,3,59,9;");
            x.tune(2);
            x.lay();
            is("SECONDS", x.count(1), 0);
            is("degrees", x.count(2), 0);
            x.tune(1);
            offsAre(x, 0);
        });
        holds("P5: nothing HEARD TOGETHER", () -> {
            RoundOfTheA x = written("d0,3,1,9;");
            for (int i = 0; i < 8; i++) x.together(1, 200);
            x.lay();
            is("forget", x.forget(), 0);
            is("together", x.together(1, 200), 1);
        });
        holds("P5: nothing UNDONE", () -> {
            RoundOfTheA x = written("d0,3,1,9;");
            x.minutes(1);
            x.lay();
            is("can be UNDONE", x.count(4), 0);
            is("undo", x.undo(), NO);
        });
        holds("P5: nothing KEPT", () -> {
            RoundOfTheA x = written("d0,3,1,9;");
            x.keep();
            x.keep();
            x.lay();
            is("KEPT", x.count(5), 0);
            is("back", x.back(), NO);
            is("keep", x.keep(), 1);
        });
        holds("P5: THE TEXT stays", () -> {
            RoundOfTheA x = laid("d0,3,1,9;");
            is("letters", x.count(6), 9);
            is("lay again", x.lay(), 1);
            is("write behind it", x.write('w'), 10);
            is("fault", x.fault(), 9);
            is("wipe", x.wipe(), 10);
        });
        holds("P5: as the text tells, not as it had become", () -> {
            RoundOfTheA x = laid("d0,3,1,9;d1,3,1,0;p0,25;o10,3;");
            x.hear(0, 8);
            x.tune(3);
            x.minutes(9);
            is("lay", x.lay(), 2);
            offsAre(x, 5, 0);
            oboeIs(x, 1);
            is("desk 0 HEARS", x.desk(0, 3), 9);
        });
        holds("P5: nothing of the hall before is left", () -> {
            RoundOfTheA x = laid("d2,0,60,8;d0,3,1,0;p0,0;p1,1;g0,4;g1,3;o0,3;w3;h9;");
            x.wipe();
            writeAll(x, "d1,3,1,9;d1,3,1,9;");
            x.lay();
            x.wipe();
            writeAll(x, "d1,3,1,9;d1,3,1,9;d1,3,1,9;");
            x.lay();
            x.wipe();
            RoundOfTheA fresh = laid("d1,3,1,9;d1,3,1,9;d1,3,1,9;");
            fresh.wipe();
            is("tune", x.tune(7), fresh.tune(7));
            is("minutes", x.minutes(1), fresh.minutes(1));
            alike("laid twice", x, fresh);
        });
    }

    private void askingOfDesks() {
        holds("P6: of a DESK: KIND, L, T, whom it HEARS, GROUP at their ends", () -> {
            RoundOfTheA x = laid("d0,0,1,8;d3,6,60,0;g1,4;");
            int[][] want = {{0, 0, 1, 8, 0}, {3, 6, 60, 0, 4}};
            for (int i = 0; i < 2; i++) {
                for (int what = 0; what < 5; what++) is("desk(" + i + ", " + what + ")", x.desk(i, what), want[i][what]);
            }
        });
        holds("P6: BAD: no such DESK", () -> {
            RoundOfTheA x = new RoundOfTheA();
            for (int i : new int[] {-1, 5, 7, 8, 9, 10, MIN, MAX}) is("desk(" + i + ", 0)", x.desk(i, 0), BAD);
            RoundOfTheA eight = laid(EIGHT);
            is("desk(7, 0) of eight", eight.desk(7, 0), 0);
            is("desk(8, 0) of eight", eight.desk(8, 0), BAD);
        });
        holds("P6: BAD: a desk of the hall before", () -> {
            RoundOfTheA x = written("d0,3,1,9;");
            x.lay();
            is("desk(1, 0)", x.desk(1, 0), BAD);
        });
        holds("P6: BAD: what (0 to 4)", () -> {
            RoundOfTheA x = new RoundOfTheA();
            for (int what : new int[] {-1, 5, MIN, MAX}) is("desk(0, " + what + ")", x.desk(0, what), BAD);
        });
        holds("P6: whom it HEARS now", () -> {
            RoundOfTheA x = new RoundOfTheA();
            x.hear(0, 8);
            is("desk(0, 3)", x.desk(0, 3), 8);
        });
    }

    private void askingHowFarOff() {
        holds("P7: and 1000: above and below", () -> {
            RoundOfTheA x = laid("d0,3,1,9;d0,3,1,9;p0,0;p1,40;o0,0;");
            is("off(0)", x.off(0), 980);
            is("off(1)", x.off(1), 1020);
            is("off(9)", x.off(9), 991);
        });
        holds("P7: and 1000: at 999 and 999 less than 0", () -> {
            RoundOfTheA x = laid("d0,3,1,9;d1,3,1,9;w3;");
            hoursPass(x, 6);
            is("off(0)", x.off(0), 1);
            is("off(1)", x.off(1), 1999);
        });
        holds("P7: BAD: no such DESK (8 is none, 9 is the OBOE)", () -> {
            RoundOfTheA x = new RoundOfTheA();
            for (int i : new int[] {-1, 5, 7, 8, 10, MIN, MAX}) is("off(" + i + ")", x.off(i), BAD);
            RoundOfTheA eight = laid(EIGHT);
            is("off(7) of eight", eight.off(7), 1000);
            is("off(8) of eight", eight.off(8), BAD);
        });
    }
}
