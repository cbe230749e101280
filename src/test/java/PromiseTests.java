/** Each promise by answers that were worked out by hand from the document. */
final class PromiseTests {
    private static final int BAD = -1, NO = -2, FULL = -3, NONE = -4;
    private static final int MIN = Integer.MIN_VALUE, MAX = Integer.MAX_VALUE;

    private final Due due;

    private PromiseTests(Due due) {
        this.due = due;
    }

    static void run(Due due) {
        PromiseTests tests = new PromiseTests(due);
        tests.constants();
        tests.aNewObject();
        tests.writing();
        tests.wiping();
        tests.faults();
        tests.faultsOfParts();
        tests.laying();
        tests.layingRefused();
        tests.theLastItemCounts();
        tests.desks();
        tests.offs();
        tests.tuning();
        tests.tuningWithinBounds();
        tests.minutesGoBy();
        tests.hearing();
        tests.undoing();
        tests.spreadHeardMean();
        tests.rounds();
        tests.halves();
        tests.ways();
        tests.ears();
        tests.again();
        tests.needles();
        tests.blaming();
        tests.fifths();
        tests.together();
        tests.high();
        tests.odds();
        tests.evenings();
        tests.keeping();
        tests.counts();
    }

    private void is(String what, long got, long want) {
        due.is(what, got, want);
    }

    private static void writeAll(RoundOfTheA x, String text) {
        x.wipe();
        for (int i = 0; i < text.length(); i++) x.write(text.charAt(i));
    }

    private RoundOfTheA laid(String text) {
        RoundOfTheA x = new RoundOfTheA();
        writeAll(x, text);
        is("lay of " + text, x.lay() > 0 ? 1 : 0, 1);
        return x;
    }

    private void offsAre(String what, RoundOfTheA x, int... want) {
        for (int i = 0; i < want.length; i++) is(what + ", off(" + i + ")", x.off(i), want[i]);
    }

    private void constants() {
        is("BAD", RoundOfTheA.BAD, -1);
        is("NO", RoundOfTheA.NO, -2);
        is("FULL", RoundOfTheA.FULL, -3);
        is("NONE", RoundOfTheA.NONE, -4);
    }

    private void aNewObject() {
        RoundOfTheA x = new RoundOfTheA();
        int[] counts = {5, 0, 0, 0, 0, 0, 0, 3};
        for (int what = 0; what < 8; what++) is("new count(" + what + ")", x.count(what), counts[what]);
        is("new fault", x.fault(), NONE);
        is("new lay", x.lay(), NO);
        is("new wipe", x.wipe(), 0);
        int[][] desks = {{0, 4, 10, 9, 0}, {0, 4, 10, 0, 1}, {1, 3, 5, 9, 0}, {2, 3, 1, 9, 0}, {3, 2, 20, 1, 2}};
        for (int i = 0; i < 5; i++) {
            for (int what = 0; what < 5; what++) is("new desk(" + i + ", " + what + ")", x.desk(i, what), desks[i][what]);
        }
        offsAre("new", x, 1005, 1000, 1000, 1002, 1000, BAD, BAD, BAD, BAD, 1000);
        x.tune(1);
        is("new: the OBOE slips by 1", x.off(9), 1001);
        is("new: one degree a minute", x.minutes(1) + x.count(2), 71);
    }

    private void writing() {
        RoundOfTheA x = new RoundOfTheA();
        is("write(31)", x.write(31), BAD);
        is("write(127)", x.write(127), BAD);
        is("write(-1)", x.write(-1), BAD);
        is("write(356)", x.write(356), BAD);
        is("write(MIN)", x.write(MIN), BAD);
        is("write(MAX)", x.write(MAX), BAD);
        is("count(6) behind bad ones", x.count(6), 0);
        is("write(32)", x.write(32), 1);
        is("write(126)", x.write(126), 2);
        for (int i = 3; i <= 200; i++) is("write of the letter " + i, x.write('d'), i);
        is("write of the letter 201", x.write('d'), FULL);
        is("write(127) with 200 letters", x.write(127), BAD);
        is("count(6)", x.count(6), 200);
    }

    private void wiping() {
        RoundOfTheA x = new RoundOfTheA();
        is("wipe of nothing", x.wipe(), 0);
        for (int i = 0; i < 200; i++) x.write('x');
        is("fault of 200 letters", x.fault(), 0);
        is("wipe of 200", x.wipe(), 200);
        is("wipe again", x.wipe(), 0);
        is("fault behind wipe", x.fault(), NONE);
        is("write behind wipe", x.write('d'), 1);
        is("the hall stays", x.count(0), 5);
    }

    private void faultIs(String text, int want) {
        RoundOfTheA x = new RoundOfTheA();
        writeAll(x, text);
        is("fault of '" + text + "'", x.fault(), want);
        is("fault again of '" + text + "'", x.fault(), want);
        is("fault changes no hall", x.count(0) + x.desk(0, 1), 9);
    }

    private void faults() {
        faultIs("", NONE);
        for (String text : new String[] {"d", "d0", "d0,", "d0,0,1", "d0,0,1,9", "d0,0,1;", "d0,0,1,9,1;", "d0,0,1,9,;", "d,0,1,9;",
            "d0,,1,9;", "d0,0,001,9;", " d0,0,1,9;", "d 0,0,1,9;", "D0,0,1,9;", ";", "x1;", "d;0,0,1,9;", "d-0,0,1,9;",
            "g", "h3", "h;", "h,3;", "h3,;", "h3,1;", "h003;", "w", "w1,1;", "o9;", "o9,0,1;", "o,0;", "0;", "hh3;"}) {
            faultIs(text, 0);
        }
        faultIs("d0,0,1,9;", NONE);
        faultIs("d00,06,01,09;", NONE);
        faultIs("d0,0,1,9; ", 9);
        faultIs("d0,0,1,9;d", 9);
        faultIs("d0,0,1,9;;", 9);
        faultIs("w1;w4;h0;", 3);
        faultIs("w1;h20;h0;", 7);
    }

    private void faultsOfParts() {
        faultIs("d3,6,60,9;", NONE);
        faultIs("d4,6,60,9;", 0);
        faultIs("d3,7,60,9;", 0);
        faultIs("d3,6,61,9;", 0);
        faultIs("d3,6,0,9;", 0);
        faultIs("d3,6,1,10;", 0);
        faultIs("d0,0,1,7;", NONE);
        faultIs("d0,0,1,0;", NONE);
        faultIs("d0,0,1,8;", NONE);
        String eight = "d0,0,1,9;".repeat(8);
        faultIs(eight, NONE);
        faultIs(eight + "d0,0,1,9;", 72);
        faultIs(eight + "g7,4;p7,40;", NONE);
        faultIs(eight + "g8,4;", 72);
        faultIs("d0,0,1,9;g0,4;g0,0;", NONE);
        faultIs("d0,0,1,9;g0,5;", 9);
        faultIs("d0,0,1,9;g1,0;", 9);
        faultIs("g0,1;d0,0,1,9;", 0);
        faultIs("d0,0,1,9;p0,40;p0,0;", NONE);
        faultIs("d0,0,1,9;p0,41;", 9);
        faultIs("d0,0,1,9;p1,20;", 9);
        faultIs("p0,20;d0,0,1,9;", 0);
        faultIs("o18,3;o0,0;", NONE);
        faultIs("o19,0;", 0);
        faultIs("o0,4;", 0);
        faultIs("w0;w3;", NONE);
        faultIs("w4;", 0);
        faultIs("h1;h20;", NONE);
        faultIs("h0;", 0);
        faultIs("h21;", 0);
    }

    private void laying() {
        RoundOfTheA x = new RoundOfTheA();
        x.tune(1);
        x.minutes(2);
        x.together(1, 200);
        x.keep();
        writeAll(x, "d0,3,1,9;d1,3,1,8;");
        is("lay", x.lay(), 2);
        int[] counts = {2, 0, 0, 0, 0, 0, 18, 3};
        for (int what = 0; what < 8; what++) is("laid count(" + what + ")", x.count(what), counts[what]);
        is("laid undo", x.undo(), NO);
        is("laid back", x.back(), NO);
        is("laid forget", x.forget(), 0);
        offsAre("laid", x, 1000, 1000, BAD);
        is("laid off(9)", x.off(9), 1000);
        is("group without", x.desk(0, 4), 0);
        x.tune(1);
        is("slip without", x.off(9), 1000);
        x.minutes(1);
        offsAre("a degree without", x, 999, 1001);
        is("lay once more", x.lay(), 2);
        offsAre("laid once more", x, 1000, 1000);
        is("lay of eight", laid("d0,3,1,7;" + "d0,3,1,0;".repeat(7)).count(0), 8);
        // What the text before told of a desk must not come through.
        writeAll(x, "d0,3,1,9;d0,3,1,9;p1,25;g1,3;o3,3;w3;h9;");
        x.lay();
        writeAll(x, "d0,3,1,9;d0,3,1,9;");
        x.lay();
        writeAll(x, "d1,3,1,9;d1,3,1,9;");
        x.lay();
        is("group of a text before", x.desk(1, 4), 0);
        offsAre("a text before", x, 1000, 1000);
        is("D of a text before", x.count(7), 3);
    }

    private void layingRefused() {
        for (String text : new String[] {"", "w1;", "d0,3,1,0;", "d0,3,1,1;", "d0,3,1,7;", "d0,3,1,9;d0,3,1,1;", "d0,3,1,9;d0,3,1,2;",
            "d0,3,1,9", "d0,3,1,9;w4;"}) {
            RoundOfTheA x = new RoundOfTheA();
            x.tune(1);
            x.together(1, 200);
            x.keep();
            writeAll(x, text);
            is("lay of '" + text + "'", x.lay(), NO);
            is("a lay refused leaves all", x.count(0) * 10000 + x.count(1) * 100 + x.count(3), 51001);
            is("a lay refused leaves UNDONE, KEPT", x.count(4) * 10 + x.count(5), 11);
            is("a lay refused leaves the desks", x.desk(4, 0) * 10 + x.desk(4, 1), 32);
            is("a lay refused leaves THE TEXT", x.count(6), text.length());
        }
    }

    private void theLastItemCounts() {
        RoundOfTheA x = laid("d0,3,1,9;p0,1;p0,22;g0,4;g0,2;o0,3;o10,1;w3;w2;h1;h7;");
        is("last p", x.off(0), 1002);
        is("last g", x.desk(0, 4), 2);
        is("last o", x.off(9), 1001);
        is("last h", x.count(7), 7);
        x.minutes(1);
        is("last w", x.off(0), 1000);
        is("last w, degrees", x.count(2), 2);
        x.tune(1);
        offsAre("last o", x, 1001);
        is("last slip", x.off(9), 1002);
        is("o below", laid("d0,3,1,9;o0,0;").off(9), 991);
        is("o above", laid("d0,3,1,9;o18,0;").off(9), 1009);
        offsAre("p at the ends", laid("d0,3,1,9;d0,3,1,9;p0,0;p1,40;"), 980, 1020);
    }

    private void desks() {
        RoundOfTheA x = laid("d3,6,60,8;d1,0,1,0;g1,4;");
        int[][] desks = {{3, 6, 60, 8, 0}, {1, 0, 1, 0, 4}};
        for (int i = 0; i < 2; i++) {
            for (int what = 0; what < 5; what++) is("desk(" + i + ", " + what + ")", x.desk(i, what), desks[i][what]);
        }
        for (int i : new int[] {-1, 2, 8, 9, MIN, MAX}) is("desk(" + i + ", 0)", x.desk(i, 0), BAD);
        for (int what : new int[] {-1, 5, MIN, MAX}) is("desk(0, " + what + ")", x.desk(0, what), BAD);
        x.hear(1, 9);
        is("desk told whom it hears now", x.desk(1, 3), 9);
    }

    private void offs() {
        RoundOfTheA x = laid("d3,6,60,8;d1,0,1,0;p0,0;p1,40;o0,0;");
        offsAre("off", x, 980, 1020, BAD, BAD, BAD, BAD, BAD, BAD, BAD, 991, BAD);
        is("off(-1)", x.off(-1), BAD);
        is("off(MIN)", x.off(MIN), BAD);
        is("off(MAX)", x.off(MAX), BAD);
    }

    private void tuning() {
        RoundOfTheA x = laid("d1,3,10,9;d1,4,20,9;d1,2,5,0;d2,6,60,9;d1,3,59,8;w0;o12,2;p0,25;p3,30;");
        is("tune of all", x.tune(31), 59);
        offsAre("all at once", x, 1004, 1005, 1005, 1010, 1000);
        is("the OBOE slips once", x.off(9), 1005);
        is("tune of a FIXED one", x.tune(8), 0);
        is("FIXED, SECONDS", x.count(1), 59);
        is("FIXED, the OBOE stays", x.off(9), 1005);
        is("FIXED, can be UNDONE", x.count(4), 2);
        is("tune of two", x.tune(5), 10);
        // Desk 2 hears what desk 0 was ahead of it, and one other makes no NOISE yet.
        offsAre("two at once", x, 1005, 1005, 1003, 1010, 1000);
        is("tune of two and a FIXED one", x.tune(14), 20);
        offsAre("FIXED ones make no NOISE", x, 1005, 1008, 1004, 1010, 1000);
        is("tune with a NEEDLE only", x.tune(16), 59);
        is("a NEEDLE lets the OBOE stay", x.off(9), 1009);
        for (int set : new int[] {0, -1, 32, 33, 255, MIN, MAX}) is("tune(" + set + ")", x.tune(set), BAD);
        is("refused tunes change nothing", x.count(1) * 10 + x.count(4), 1485);
        RoundOfTheA eight = laid("d1,3,1,9;".repeat(8) + "w0;");
        is("tune of eight", eight.tune(255), 1);
        offsAre("half of seven others, cut", eight, 1003, 1003, 1003, 1003, 1003, 1003, 1003, 1003);
        is("tune(256) of eight", eight.tune(256), BAD);
        RoundOfTheA warm = laid("d0,3,40,8;d1,3,40,8;d2,3,1,9;d3,3,40,8;w3;o9,3;");
        warm.tune(1);
        offsAre("40 seconds", warm, 1000, 1000, 1000, 1000);
        warm.tune(2);
        offsAre("80 seconds", warm, 997, 1003, 1000, 994);
        is("the OBOE does not warm", warm.off(9), 1000);
    }

    private void tuningWithinBounds() {
        RoundOfTheA x = laid("d1,6,1,9;d1,6,1,0;d3,0,1,9;d0,0,1,2;w3;");
        for (int i = 0; i < 7; i++) x.minutes(60);
        offsAre("at the ends", x, 1999, 1999, 1, 1);
        x.tune(10);
        offsAre("kept within behind a tune", x, 1999, 1999, 1, 1);
        RoundOfTheA oboe = laid("d1,3,1,9;w0;o18,3;");
        for (int i = 0; i < 340; i++) oboe.tune(1);
        is("the OBOE is kept within", oboe.off(9), 1999);
        is("what is taken from it", oboe.off(0), 1999);
        // Kept within as the note is taken, then warmer: not 999 + 3 - 1.
        RoundOfTheA then = laid("d1,3,1,8;d0,6,60,0;w3;");
        for (int i = 0; i < 6; i++) then.minutes(60);
        then.tune(2);
        offsAre("kept within ahead of the warmth", then, 1999, 1996);
    }

    private void minutesGoBy() {
        RoundOfTheA x = laid("d0,3,59,9;d1,3,1,9;d2,3,1,9;d3,3,1,9;w2;");
        is("minutes(1)", x.minutes(1), 60);
        offsAre("a minute", x, 998, 1002, 1000, 996);
        is("minutes(60)", x.minutes(60), 3660);
        offsAre("61 minutes", x, 878, 1122, 1000, 756);
        is("the OBOE", x.off(9), 1000);
        is("degrees", x.count(2), 122);
        for (int n : new int[] {0, -1, 61, MIN, MAX}) is("minutes(" + n + ")", x.minutes(n), BAD);
        is("bad minutes", x.count(1) + x.count(4), 3662);
        for (int i = 0; i < 26; i++) x.minutes(60);
        is("SECONDS ahead of the end", x.count(1), 97260);
        is("minutes(46)", x.minutes(46), NO);
        is("minutes(61) near the end", x.minutes(61), BAD);
        is("minutes(45)", x.minutes(45), 99960);
        is("minutes(1) at the end", x.minutes(1), NO);
        is("a refused minute", x.count(1), 99960);
        is("tune beyond", x.tune(1), 59);
        is("SECONDS beyond", x.count(1), 100019);
        RoundOfTheA full = laid("d2,3,1,9;d0,3,39,9;");
        full.tune(2);
        for (int i = 0; i < 27; i++) full.minutes(60);
        is("SECONDS ahead of the very end", full.count(1), 97239);
        is("minutes(47) beyond the very end", full.minutes(47), NO);
        is("minutes(46) to the very end", full.minutes(46), 99999);
        RoundOfTheA still = laid("d0,3,59,9;w0;");
        still.minutes(60);
        is("no warmth", still.off(0) + still.count(2), 1000);
    }

    private void hearing() {
        RoundOfTheA x = new RoundOfTheA();
        is("hear(0, 4)", x.hear(0, 4), 9);
        is("hear(0, 4) again", x.hear(0, 4), 4);
        is("hear(0, 8)", x.hear(0, 8), 4);
        is("hear(0, 9)", x.hear(0, 9), 8);
        is("FIXED ones hear", x.hear(3, 0), 9);
        is("all of them can be UNDONE", x.count(4), 5);
        int[][] bad = {{0, 0}, {4, 4}, {0, 5}, {0, 7}, {0, 10}, {0, -1}, {5, 0}, {8, 0}, {9, 0}, {-1, 0}, {MIN, MAX}, {MAX, MIN}};
        for (int[] n : bad) is("hear(" + n[0] + ", " + n[1] + ")", x.hear(n[0], n[1]), BAD);
        is("bad ones change nothing", x.count(4) * 100 + x.desk(0, 3) * 10 + x.desk(4, 3), 591);
        is("hearing takes no SECONDS", x.count(1), 0);
        x.hear(2, 3);
        x.tune(4);
        is("the note of whom it hears now", x.off(2), 1002);
    }

    private void undoing() {
        RoundOfTheA x = new RoundOfTheA();
        is("undo of nothing", x.undo(), NO);
        x.tune(7);
        x.minutes(3);
        x.hear(1, 8);
        is("undo of hear", x.undo(), 2);
        is("as it heard", x.desk(1, 3), 0);
        is("SECONDS stay", x.count(1), 190);
        is("undo of minutes", x.undo(), 1);
        is("SECONDS", x.count(1), 10);
        is("undo of tune", x.undo(), 0);
        offsAre("undone", x, 1005, 1000, 1000, 1002, 1000);
        is("the OBOE undone", x.off(9), 1000);
        is("SECONDS undone", x.count(1), 0);
        is("undo once more", x.undo(), NO);
        for (int i = 1; i <= 10; i++) {
            x.minutes(1);
            is("can be UNDONE", x.count(4), Math.min(i, 8));
        }
        for (int i = 7; i >= 0; i--) is("undo", x.undo(), i);
        is("the last 8", x.count(1), 120);
        is("undo of the ninth", x.undo(), NO);
        x.together(1, 200);
        x.tune(1);
        x.keep();
        x.undo();
        is("HEARD TOGETHER and KEPT are not UNDONE", x.count(3) * 10 + x.count(5), 11);
        x.minutes(1);
        x.undo();
        is("behind undo and another", x.undo(), NO);
    }

    private void spreadHeardMean() {
        RoundOfTheA x = laid("d0,3,1,9;d0,3,1,9;d2,3,1,9;p0,17;p1,20;p2,24;h4;o18,0;");
        is("spread", x.spread(), 7);
        is("heard", x.heard(), 1);
        is("mean above", x.mean(0), 3001);
        is("mean below", x.mean(1), 3);
        for (int part : new int[] {-1, 2, MIN, MAX}) is("mean(" + part + ")", x.mean(part), BAD);
        is("heard, D 3", laid("d0,3,1,9;d0,3,1,9;d2,3,1,9;p0,17;p1,20;p2,24;").heard(), 2);
        is("heard, D 2", laid("d0,3,1,9;d0,3,1,9;d2,3,1,9;p0,17;p1,20;p2,24;h2;").heard(), 3);
        RoundOfTheA one = laid("d0,3,1,9;p0,0;");
        is("spread of one", one.spread(), 0);
        is("heard of one", one.heard(), 0);
        is("mean of one", one.mean(0), 980);
        is("mean of one, below", one.mean(1), 1);
        RoundOfTheA four = laid("d0,3,1,9;".repeat(4) + "p0,22;");
        is("mean in lowest terms, above", four.mean(0), 2001);
        is("mean in lowest terms, below", four.mean(1), 2);
        RoundOfTheA all = laid("d1,3,1,9;".repeat(8) + "p0,40;p1,0;h20;");
        is("heard of eight", all.heard(), 1);
        is("spread of eight", all.spread(), 40);
    }

    private void rounds() {
        RoundOfTheA x = laid("d1,4,10,1;d1,4,50,9;d0,3,30,0;d2,3,1,9;g0,2;g2,4;g3,1;p3,29;w1;o9,2;");
        // Group 0: desk 1 comes to 1; 2: desk 0 to 2, a degree: 3, and 2 for desk 1; 4: desk 2 to 3.
        is("round seconds", x.round(-2), 90);
        is("round(0)", x.round(0), 1003);
        is("round(1)", x.round(1), 1002);
        is("round(2)", x.round(2), 1003);
        is("round(3)", x.round(3), 1009);
        is("round spread", x.round(-1), 7);
        for (int i : new int[] {-3, 4, 8, 9, MIN, MAX}) is("round(" + i + ")", x.round(i), BAD);
        is("round changes nothing", x.count(1) + x.count(4) + x.off(0) + x.off(9), 2000);
        x.minutes(1);
        is("seconds from now on", x.round(-2), 90);
        is("the round from now on", x.round(2), 1003);
        is("round of FIXED ones", laid("d2,3,60,9;").round(-2), 0);
    }

    private void halvesAre(String text, int set, int spread, int seconds) {
        RoundOfTheA x = laid(text);
        is("halves(0) of " + text, x.halves(0), set);
        is("halves(1) of " + text, x.halves(1), spread);
        is("halves(2) of " + text, x.halves(2), seconds);
        is("halves changes nothing", x.count(1) + x.count(4), 0);
        for (int what : new int[] {-1, 3, MIN, MAX}) is("halves(" + what + ")", x.halves(what), BAD);
    }

    private void halves() {
        halvesAre("d1,3,10,9;d1,3,20,0;w0;p1,30;", 0, 0, 20);
        halvesAre("d1,3,10,9;d1,3,20,0;w0;p0,25;", 1, 0, 30);
        halvesAre("d1,3,20,1;d1,3,10,9;w0;p1,25;", 2, 0, 30);
        // Three at once make NOISE against the FIXED one: the soonest of the quiet ways are 3 and 4.
        halvesAre("d1,3,30,9;d1,3,20,9;d1,3,10,9;d2,3,1,9;w0;", 3, 0, 40);
        halvesAre("d2,3,30,9;", 0, 0, 0);
    }

    private void wayIs(RoundOfTheA x, int i, int steps, int lean) {
        is("way(" + i + ", 0)", x.way(i, 0), steps);
        is("way(" + i + ", 1)", x.way(i, 1), lean);
    }

    private void ways() {
        RoundOfTheA x = laid("d0,6,1,9;d0,5,1,0;d2,5,1,1;d0,0,1,8;d3,1,1,3;d0,6,1,6;d0,6,1,5;d0,6,1,6;");
        wayIs(x, 0, 1, 103);
        wayIs(x, 1, 2, 105);
        wayIs(x, 2, 3, 107);
        wayIs(x, 3, 1, 100);
        wayIs(x, 4, 2, 98);
        wayIs(x, 5, NONE, NONE);
        wayIs(x, 6, NONE, NONE);
        wayIs(x, 7, NONE, NONE);
        for (int what : new int[] {-1, 2, MIN, MAX}) {
            is("way(0, " + what + ")", x.way(0, what), BAD);
            is("way(5, " + what + ")", x.way(5, what), BAD);
        }
        for (int i : new int[] {-1, 8, 9, MIN, MAX}) is("way(" + i + ", 0)", x.way(i, 0), BAD);
        x.hear(6, 2);
        wayIs(x, 7, 5, 113);
        x.hear(0, 8);
        wayIs(x, 7, 5, 110);
        RoundOfTheA eight = laid("d0,0,1,9;d0,0,1,0;d0,0,1,1;d0,0,1,2;d0,0,1,3;d0,0,1,4;d0,0,1,5;d0,0,1,6;");
        wayIs(eight, 7, 8, 76);
    }

    private void earIs(RoundOfTheA x, int i, int whom, int off) {
        is("ear(" + i + ", 0)", x.ear(i, 0), whom);
        is("ear(" + i + ", 1)", x.ear(i, 1), off);
    }

    private void ears() {
        RoundOfTheA x = laid("d1,3,10,9;d1,3,10,9;d1,3,10,8;w0;o14,0;g0,1;p1,22;p2,15;");
        earIs(x, 0, 2, 0);
        is("ear leaves who hears whom", x.desk(0, 3) + x.count(4), 9);
        earIs(laid("d1,3,10,9;d2,3,1,9;d2,3,1,9;w0;o7,0;p1,22;p2,19;"), 0, 2, 1);
        earIs(laid("d1,3,10,9;d2,3,1,9;d2,3,1,9;w0;o7,0;p1,21;p2,19;"), 0, 1, 1);
        earIs(laid("d1,3,10,9;d2,3,1,9;w0;"), 0, 1, 0);
        earIs(laid("d1,3,10,8;d2,3,1,9;w0;p1,25;o8,0;"), 0, 9, 1);
        earIs(laid("d1,4,10,8;"), 0, 9, 1);
        RoundOfTheA fixed = laid("d1,4,10,8;d2,4,10,8;");
        earIs(fixed, 1, NO, NO);
        for (int what : new int[] {-1, 2, MIN, MAX}) {
            is("ear(0, " + what + ")", fixed.ear(0, what), BAD);
            is("ear of FIXED, " + what, fixed.ear(1, what), BAD);
        }
        for (int i : new int[] {-1, 2, 8, 9, MIN, MAX}) is("ear(" + i + ", 0)", fixed.ear(i, 0), BAD);
    }

    private void again() {
        RoundOfTheA x = laid("d0,3,1,9;d1,3,1,9;w3;h20;");
        is("again", x.again(), 4);
        is("again changes nothing", x.count(1) + x.off(0), 1000);
        x.minutes(3);
        is("again from now", x.again(), 1);
        x.minutes(1);
        is("again at once", x.again(), 0);
        is("again without warmth", laid("d0,3,1,9;d1,3,1,9;w0;").again(), NONE);
        is("again of one kind", laid("d0,3,1,9;d0,3,1,9;w3;").again(), NONE);
        is("again of one desk", laid("d0,3,1,9;").again(), NONE);
        is("not more than is not heard", laid("d2,3,1,9;d2,3,1,9;p0,23;").again(), NONE);
        is("more than is not heard", laid("d2,3,1,9;d2,3,1,9;p0,24;").again(), 0);
        RoundOfTheA late = laid("d0,3,1,9;d2,3,1,9;w1;h20;p0,40;");
        is("again behind coming nearer", late.again(), 41);
        for (int i = 0; i < 27; i++) late.minutes(60);
        late.hear(0, 1);
        late.tune(1);
        is("again beyond what minutes can be", late.again(), 21);
    }

    private void needlesAre(RoundOfTheA x, int k, int set, int spread) {
        is("needles(" + k + ", 0)", x.needles(k, 0), set);
        is("needles(" + k + ", 1)", x.needles(k, 1), spread);
    }

    private void needles() {
        RoundOfTheA x = laid("d1,3,10,9;d1,5,10,0;d2,3,1,9;w0;o12,0;g1,1;");
        needlesAre(x, 0, 0, 5);
        needlesAre(x, 1, 1, 2);
        needlesAre(x, 2, 3, 0);
        needlesAre(x, 3, NONE, NONE);
        is("needles change nothing", x.desk(0, 3) + x.desk(1, 3) + x.count(4), 9);
        for (int k : new int[] {-1, 4, MIN, MAX}) is("needles(" + k + ", 0)", x.needles(k, 0), BAD);
        for (int what : new int[] {-1, 2, MIN, MAX}) {
            is("needles(1, " + what + ")", x.needles(1, what), BAD);
            is("needles(3, " + what + ")", x.needles(3, what), BAD);
        }
        needlesAre(laid("d2,3,1,9;"), 0, 0, 0);
        needlesAre(laid("d2,3,1,9;"), 1, NONE, NONE);
        // FIXED ones get none: the sets are of desks 1 to 3, and all are as good.
        needlesAre(laid("d2,3,1,9;d1,3,1,8;d1,3,1,8;d1,3,1,8;w0;"), 1, 2, 0);
        needlesAre(laid("d2,3,1,9;d1,3,1,8;d1,3,1,8;d1,3,1,8;w0;"), 2, 6, 0);
        needlesAre(laid("d2,3,1,9;d1,3,1,8;d1,3,1,8;d1,3,1,8;w0;"), 3, 14, 0);
    }

    private void blaming() {
        RoundOfTheA x = laid("d1,3,10,9;d1,5,10,0;d2,3,1,9;w0;o12,0;g1,1;");
        is("blame(0)", x.blame(0), 1);
        is("blame(1)", x.blame(1), 3);
        RoundOfTheA last = laid("d1,5,10,9;w0;");
        is("blame of one", last.blame(0), 0);
        is("blame of one, spread", last.blame(1), 0);
        is("a round leans as ever behind blame", last.round(0), 1002);
        last.blame(0);
        last.tune(1);
        is("a tune leans as ever behind blame", last.off(0), 1002);
        is("of several the lowest", laid("d1,5,10,9;d1,5,10,9;d2,3,1,8;w0;").blame(0), 0);
        for (int what : new int[] {-1, 2, MIN, MAX}) is("blame(" + what + ")", last.blame(what), BAD);
    }

    private void fifths() {
        RoundOfTheA x = new RoundOfTheA();
        int[][] rows = {{0, 0, 20, 0}, {9, 0, 29, 9}, {0, 9, 11, 9}, {9, 9, 20, 18}, {3, 1, 22, 4}, {0, 1, 19, 1}, {3, 0, 23, 3}};
        for (int[] row : rows) {
            is("fifths(" + row[0] + ", " + row[1] + ", 0)", x.fifths(row[0], row[1], 0), row[2]);
            is("fifths(" + row[0] + ", " + row[1] + ", 1)", x.fifths(row[0], row[1], 1), row[3]);
        }
        for (int n : new int[] {-1, 10, MIN, MAX}) {
            is("fifths(" + n + ", 0, 0)", x.fifths(n, 0, 0), BAD);
            is("fifths(0, " + n + ", 0)", x.fifths(0, n, 0), BAD);
        }
        for (int what : new int[] {-1, 2, MIN, MAX}) is("fifths(0, 0, " + what + ")", x.fifths(0, 0, what), BAD);
    }

    private void together() {
        RoundOfTheA x = new RoundOfTheA();
        is("forget nothing", x.forget(), 0);
        int[][] bad = {{0, 0}, {-1, 0}, {32, 0}, {1, -1}, {1, 401}, {MIN, 0}, {MAX, 0}, {1, MIN}, {1, MAX}};
        for (int[] n : bad) is("together(" + n[0] + ", " + n[1] + ")", x.together(n[0], n[1]), BAD);
        is("together(31, 0)", x.together(31, 0), 1);
        is("together(1, 400)", x.together(1, 400), 2);
        for (int i = 3; i <= 8; i++) is("together", x.together(1, 200), i);
        is("together of nine", x.together(1, 200), FULL);
        is("a bad one of nine", x.together(0, 200), BAD);
        is("together can't be UNDONE", x.count(4), 0);
        is("forget", x.forget(), 8);
        is("forget again", x.forget(), 0);
        is("together behind forget", x.together(1, 200), 1);
    }

    private void highIs(String what, RoundOfTheA x, int many, int first) {
        is(what + ", high(0)", x.high(0), many);
        is(what + ", high(1)", x.high(1), first);
    }

    private void high() {
        RoundOfTheA x = laid("d0,3,1,9;d1,3,1,9;d2,3,1,9;p0,21;p1,22;p2,23;");
        highIs("nothing heard", x, 54, 0);
        x.together(3, 206);
        highIs("one of two is 3 higher", x, 2, 12);
        x.together(2, 205);
        highIs("desk 1 is 3 higher", x, 1, 32);
        x.together(4, 203);
        highIs("desk 2 is as it is", x, 1, 32);
        x.together(4, 204);
        highIs("not both", x, 0, NONE);
        x.forget();
        x.together(7, 206);
        highIs("all as they are: a slip of 0 is none", x, 0, NONE);
        x.forget();
        x.together(6, 196);
        highIs("9 lower", x, 2, 20);
        x.forget();
        x.together(4, 212);
        highIs("9 higher", x, 1, 58);
        x.forget();
        x.together(4, 213);
        highIs("10 higher", x, 0, NONE);
        x.forget();
        x.together(2, 205);
        x.minutes(1);
        highIs("than it is now", x, 1, 31);
        for (int what : new int[] {-1, 2, MIN, MAX}) is("high(" + what + ")", x.high(what), BAD);
        RoundOfTheA far = laid("d1,3,1,9;d3,3,1,9;w3;");
        for (int i = 0; i < 6; i++) far.minutes(60);
        far.together(3, 205);
        highIs("beyond 999", far, 2, 14);
    }

    private void oddsAre(RoundOfTheA x, int tenths, int above, int below) {
        is("odds(" + tenths + ", 0)", x.odds(tenths, 0), above);
        is("odds(" + tenths + ", 1)", x.odds(tenths, 1), below);
    }

    private void odds() {
        RoundOfTheA x = laid("d0,3,1,9;d3,3,1,9;d2,3,1,9;d1,3,1,9;");
        oddsAre(x, 0, 1, 1);
        oddsAre(x, 3, 49, 100);
        oddsAre(x, 5, 1, 4);
        oddsAre(x, 10, 0, 1);
        is("odds change nothing", x.off(0) + x.count(4), 1000);
        RoundOfTheA two = laid("d0,3,1,9;d3,3,1,9;");
        oddsAre(two, 0, 1, 1);
        oddsAre(two, 3, 29, 50);
        oddsAre(two, 10, 1, 1);
        oddsAre(laid("d0,3,1,9;d3,3,1,9;h4;"), 3, 1, 1);
        oddsAre(laid("d1,3,1,9;d2,3,1,9;"), 10, 1, 1);
        oddsAre(laid("d1,3,1,9;d2,3,1,9;p0,24;"), 10, 0, 1);
        // All eight slip or none: 3 and 7 of ten, eight times each.
        oddsAre(laid("d0,3,1,9;".repeat(8)), 3, 2885681, 50000000);
        for (int n : new int[] {-1, 11, MIN, MAX}) is("odds(" + n + ", 0)", x.odds(n, 0), BAD);
        for (int part : new int[] {-1, 2, MIN, MAX}) is("odds(0, " + part + ")", x.odds(0, part), BAD);
        RoundOfTheA low = laid("d0,3,1,9;d0,3,1,9;w3;");
        for (int i = 0; i < 6; i++) low.minutes(60);
        oddsAre(low, 5, 1, 1);
    }

    private void evenings() {
        // Squares by hand: z 0 draws 1, 41487 and z 1 draws 22803, 54100; modulo 3 less 1: 0, -1; -1, 0.
        RoundOfTheA x = laid("d1,3,10,9;d1,3,10,8;d2,3,1,9;w0;h1;");
        is("evening(0, 0)", x.evening(0, 0), 1);
        is("evening(0, 1)", x.evening(0, 1), 0);
        is("evening changes nothing", x.off(0) + x.off(1) + x.count(4) + x.count(1), 2000);
        is("a round draws nothing behind it", x.round(-1), 0);
        RoundOfTheA far = laid("d1,3,10,9;d1,3,10,8;d2,3,1,9;w0;h4;p2,25;");
        is("evening(0, 0) of far", far.evening(0, 0), 6);
        is("evening(0, 1) of far", far.evening(0, 1), 2);
        is("evening(1, 0) of far", far.evening(1, 0), 6);
        // Desk 1 is drawn for first, and desk 0 takes what it came to.
        RoundOfTheA turned = laid("d1,3,10,1;d1,3,10,8;d2,3,1,9;w0;h5;p2,25;g0,1;");
        is("evening(1, 0) of groups", turned.evening(1, 0), 6);
        is("evening(1, 1) of groups", turned.evening(1, 1), 2);
        is("evening(0, 0) of groups", turned.evening(0, 0), 6);
        is("evening(0, 1) of groups", turned.evening(0, 1), 1);
        for (int z : new int[] {-1, 10000, MIN, MAX}) is("evening(" + z + ", 0)", x.evening(z, 0), BAD);
        for (int what : new int[] {-1, 2, MIN, MAX}) is("evening(0, " + what + ")", x.evening(0, what), BAD);
        is("evening(9999, 0)", x.evening(9999, 0) >= 0 ? 1 : 0, 1);
    }

    private void keeping() {
        RoundOfTheA x = new RoundOfTheA();
        is("back of nothing", x.back(), NO);
        is("keep", x.keep(), 1);
        x.tune(1);
        x.hear(0, 8);
        x.together(1, 200);
        is("keep two", x.keep(), 2);
        is("keep three", x.keep(), FULL);
        x.minutes(5);
        x.hear(0, 4);
        is("keep can't be UNDONE", x.count(4), 4);
        is("back", x.back(), 1);
        is("SECONDS are back", x.count(1), 10);
        is("who HEARS whom is back", x.desk(0, 3), 8);
        is("the OBOE is back", x.off(9), 1001);
        offsAre("back", x, 1001, 1000, 1000, 1002, 1000);
        is("nothing is UNDONE then", x.count(4), 0);
        is("undo", x.undo(), NO);
        is("HEARD TOGETHER stays", x.count(3), 1);
        x.minutes(1);
        is("back again", x.back(), 0);
        offsAre("back at first", x, 1005, 1000, 1000, 1002, 1000);
        is("the OBOE at first", x.off(9), 1000);
        is("SECONDS at first", x.count(1), 0);
        is("it heard at first", x.desk(0, 3), 9);
        is("back refused", x.back(), NO);
        x.minutes(1);
        x.back();
        is("back refused changes nothing", x.count(4) + x.count(1), 61);
        x.keep();
        x.keep();
        x.minutes(1);
        x.keep();
        x.back();
        is("keep refused changes nothing", x.count(1), 60);
    }

    private void counts() {
        RoundOfTheA x = laid("d0,3,50,9;w3;h20;");
        x.tune(1);
        is("degrees ahead of a minute", x.count(2), 0);
        x.tune(1);
        is("degrees", x.count(2), 3);
        is("SECONDS", x.count(1), 100);
        is("D", x.count(7), 20);
        is("letters", x.count(6), 17);
        for (int what : new int[] {-1, 8, MIN, MAX}) is("count(" + what + ")", x.count(what), BAD);
    }
}
