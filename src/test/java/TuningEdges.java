/** Boundary cases of promises 8 to 14, and of what TUNES, SECONDS and UNDONE are (part 2). */
final class TuningEdges extends Edges {
    private TuningEdges(Due due) {
        super(due);
    }

    static void run(Due due) {
        TuningEdges edges = new TuningEdges(due);
        edges.sets();
        edges.whoTakes();
        edges.noise();
        edges.needlesAndOboe();
        edges.seconds();
        edges.warmth();
        edges.keptWithin();
        edges.minutesGoBy();
        edges.minutesRefused();
        edges.hearing();
        edges.hearingRefused();
        edges.undoing();
        edges.lastEight();
        edges.notUndone();
        edges.spreads();
        edges.heardTwos();
        edges.means();
    }

    private void sets() {
        holds("P8: a set (bits, not empty): BAD", () -> leavesAll("tune(0)", BAD, Edges::lived, x -> x.tune(0)));
        holds("P8: sets of DESKS such as there are: BAD else", () -> {
            leavesAll("tune(32) of five", BAD, Edges::lived, x -> x.tune(32));
            RoundOfTheA x = new RoundOfTheA();
            for (int set : new int[] {33, 63, 64, 255, 256, -1, -32, MIN, MAX}) is("tune(" + set + ")", x.tune(set), BAD);
            is("SECONDS", x.count(1), 0);
        });
        holds("P8: sets of DESKS: all of them", () -> {
            is("tune(31) of five", new RoundOfTheA().tune(31), 20);
            is("tune(255) of eight", laid(times(8, "d0,3,1,9;")).tune(255), 1);
            is("tune(256) of eight", laid(times(8, "d0,3,1,9;")).tune(256), BAD);
            is("tune(1) of one", laid("d0,3,1,9;").tune(1), 1);
            is("tune(2) of one", laid("d0,3,1,9;").tune(2), BAD);
            is("tune(3) of one", laid("d0,3,1,9;").tune(3), BAD);
        });
        holds("P8: sets of DESKS: the highest one alone", () -> {
            RoundOfTheA x = laid(times(8, "d1,4,7,9;") + "w0;");
            is("tune(128)", x.tune(128), 7);
            offsAre(x, 0, 0, 0, 0, 0, 0, 0, 1);
        });
    }

    private void whoTakes() {
        holds("T2: each of them but FIXED ones", () -> {
            RoundOfTheA x = laid("d2,6,9,9;d0,4,1,9;d1,4,1,9;d3,4,1,9;w0;p0,30;");
            x.tune(15);
            offsAre(x, 10, 2, 2, 2);
        });
        holds("T2: each of them: nobody else", () -> {
            RoundOfTheA x = laid("d1,4,1,9;d1,4,1,9;d1,4,1,9;w0;");
            x.tune(5);
            offsAre(x, 1, 0, 1);
        });
        holds("T2: all as they are ahead of that: two that HEAR each other", () -> {
            RoundOfTheA x = laid("d1,3,1,1;d1,3,1,0;w0;p0,25;p1,18;");
            x.tune(3);
            offsAre(x, -2, 5);
        });
        holds("T2: all as they are ahead of that: all of a ring", () -> {
            RoundOfTheA x = laid("d1,3,1,1;d1,3,1,2;d1,3,1,0;w0;p0,21;p1,22;p2,23;");
            x.tune(7);
            offsAre(x, 3, 4, 2);
        });
        holds("T2: as it LEANS, by 3 less than 0 to 3", () -> {
            RoundOfTheA x = laid("d1,0,1,9;d1,3,1,9;d1,6,1,9;w0;o10,0;");
            for (int i = 0; i < 3; i++) x.tune(1 << i);
            offsAre(x, -2, 1, 4);
        });
        holds("T2: from a DESK, a FIXED one, too", () -> {
            RoundOfTheA x = laid("d2,6,1,9;d1,3,1,0;w0;p0,31;");
            x.tune(2);
            offsAre(x, 11, 11);
        });
    }

    private void noise() {
        holds("T2: NOISE: half of how many others, cut: one to eight at once", () -> {
            RoundOfTheA x = laid(times(8, "d1,3,1,9;") + "w0;");
            int[] want = {0, 0, 1, 1, 2, 2, 3, 3};
            for (int n = 1; n <= 8; n++) {
                x.tune((1 << n) - 1);
                is("OFF among " + n, x.off(n - 1) - 1000, want[n - 1]);
            }
        });
        holds("T2: NOISE: others that are not FIXED alone", () -> {
            RoundOfTheA x = laid(times(2, "d1,3,1,9;") + times(6, "d2,3,1,9;") + "w0;");
            x.tune(255);
            offsAre(x, 0, 0);
            x = laid(times(3, "d1,3,1,9;") + times(5, "d2,3,1,9;") + "w0;");
            x.tune(255);
            offsAre(x, 1, 1, 1, 0);
        });
        holds("T2: NOISE: others of the set alone", () -> {
            RoundOfTheA x = laid(times(8, "d1,3,1,9;") + "w0;");
            x.tune(129);
            offsAre(x, 0, 0, 0, 0, 0, 0, 0, 0);
        });
        holds("T2: NOISE for who hears a DESK, too", () -> {
            RoundOfTheA x = laid("d1,3,1,3;d1,3,1,3;d1,3,1,3;d2,3,1,9;w0;p3,25;");
            x.tune(15);
            offsAre(x, 6, 6, 6, 5);
        });
    }

    private void needlesAndOboe() {
        holds("T2: from a NEEDLE it is OFF by 0: no leaning, no NOISE", () -> {
            RoundOfTheA x = laid("d1,6,1,8;d1,0,1,8;d1,6,1,8;w0;p0,40;p1,0;o18,3;");
            x.tune(7);
            offsAre(x, 0, 0, 0);
        });
        holds("T2: who has a NEEDLE makes NOISE for others", () -> {
            RoundOfTheA x = laid("d1,3,1,9;d1,3,1,8;d1,3,1,8;w0;");
            x.tune(7);
            offsAre(x, 1, 0, 0);
        });
        holds("T2: if anybody took it from the OBOE: by S more, once for all of them", () -> {
            RoundOfTheA x = laid(times(3, "d1,3,1,9;") + "w0;o9,3;");
            x.tune(7);
            oboeIs(x, 3);
        });
        holds("T2: then: those took it as it was ahead of that", () -> {
            RoundOfTheA x = laid("d1,3,1,9;d1,3,1,9;w0;o9,3;");
            x.tune(3);
            offsAre(x, 0, 0);
            x.tune(2);
            offsAre(x, 0, 3);
        });
        holds("T2: if anybody took it: nobody of the set did", () -> {
            RoundOfTheA x = laid("d1,3,1,8;d1,3,1,0;d1,3,1,9;w0;o9,3;");
            x.tune(3);
            oboeIs(x, 0);
        });
        holds("T2: if anybody took it: FIXED ones take none", () -> {
            RoundOfTheA x = laid("d2,3,1,9;d1,3,1,8;w0;o9,3;");
            x.tune(1);
            x.tune(3);
            oboeIs(x, 0);
        });
        holds("T2: slips by 0", () -> {
            RoundOfTheA x = laid("d1,3,1,9;w0;o12,0;");
            x.tune(1);
            oboeIs(x, 3);
        });
    }

    private void seconds() {
        holds("T2: as many seconds as the slowest of the set needs: 1 to 60", () -> {
            RoundOfTheA x = laid("d1,3,1,9;d1,3,60,9;d1,3,59,9;");
            is("the soonest", x.tune(1), 1);
            is("the slowest", x.tune(7), 60);
            is("two of them", x.tune(5), 59);
            is("SECONDS", x.count(1), 120);
        });
        holds("T2: the slowest that is not FIXED", () -> is("seconds", laid("d2,3,60,9;d1,3,2,9;").tune(3), 2));
        holds("T2: none: 0", () -> {
            RoundOfTheA x = laid("d2,3,60,9;d2,3,50,9;d1,3,9,9;w3;");
            is("seconds of FIXED ones", x.tune(3), 0);
            is("SECONDS", x.count(1), 0);
            offsAre(x, 0, 0, 0);
        });
        holds("T2: who has a NEEDLE needs his seconds, too", () -> is("seconds", laid("d1,3,33,8;").tune(1), 33));
    }

    private void warmth() {
        holds("T2: with each full minute: 59 seconds are none, 60 are one", () -> {
            RoundOfTheA x = laid("d1,3,59,8;d1,3,1,8;d0,3,1,8;w2;");
            x.tune(1);
            offsAre(x, 0, 0, 0);
            is("degrees", x.count(2), 0);
            x.tune(2);
            offsAre(x, 2, 2, -2);
            is("degrees", x.count(2), 2);
        });
        holds("T2: with each full minute: of SECONDS from the beginning, not of a call", () -> {
            RoundOfTheA x = laid("d1,3,59,8;d1,3,1,8;d0,3,1,8;w1;");
            x.tune(1);
            x.minutes(1);
            offsAre(x, 1, 1, -1);
            x.tune(2);
            is("SECONDS", x.count(1), 120);
            offsAre(x, 2, 1, -2);
        });
        holds("T2: a full minute in one tune", () -> {
            RoundOfTheA x = laid("d1,3,60,8;w3;");
            x.tune(1);
            offsAre(x, 3);
            x.tune(1);
            offsAre(x, 3);
            is("degrees", x.count(2), 6);
        });
        holds("T2: by each degree: STRING, WIND, HARP, FIXED", () -> {
            RoundOfTheA x = laid("d0,3,1,9;d1,3,1,9;d3,3,1,9;d2,3,1,9;w1;o18,0;");
            x.minutes(1);
            offsAre(x, -1, 1, -2, 0);
            oboeIs(x, 9);
        });
        holds("T2: by B: 0 and 3", () -> {
            RoundOfTheA x = laid("d0,3,1,9;d1,3,1,9;d3,3,1,9;w0;");
            x.minutes(60);
            offsAre(x, 0, 0, 0);
            is("degrees", x.count(2), 0);
            x = laid("d0,3,1,9;d1,3,1,9;d3,3,1,9;w3;");
            x.minutes(60);
            offsAre(x, -180, 180, -360);
            is("degrees", x.count(2), 180);
        });
        holds("T2: the hall gets warmer behind the note that was taken, for those too who took none", () -> {
            RoundOfTheA x = laid("d1,3,60,9;d0,3,1,9;w1;o12,0;");
            x.tune(1);
            offsAre(x, 4, -1);
        });
    }

    private void keptWithin() {
        holds("T2: within 999: a WIND gets there and no further", () -> {
            RoundOfTheA x = laid("d1,3,1,9;w3;");
            hoursPass(x, 5);
            x.minutes(32);
            offsAre(x, 996);
            x.minutes(1);
            offsAre(x, 999);
            x.minutes(1);
            offsAre(x, 999);
        });
        holds("T2: within 999: from 998 by more than one", () -> {
            RoundOfTheA x = laid("d1,3,1,9;w3;p0,22;");
            hoursPass(x, 5);
            x.minutes(32);
            offsAre(x, 998);
            x.minutes(60);
            offsAre(x, 999);
        });
        holds("T2: within 999 less than 0: a STRING", () -> {
            RoundOfTheA x = laid("d0,3,1,9;w3;p0,18;");
            hoursPass(x, 5);
            x.minutes(32);
            offsAre(x, -998);
            x.minutes(1);
            offsAre(x, -999);
            x.minutes(60);
            offsAre(x, -999);
        });
        holds("T2: within 999 less than 0: a HARP", () -> {
            RoundOfTheA x = laid("d3,3,1,9;w3;");
            hoursPass(x, 2);
            x.minutes(46);
            offsAre(x, -996);
            x.minutes(1);
            offsAre(x, -999);
        });
        holds("T2: within 999: a note that is taken, with leaning", () -> {
            RoundOfTheA x = laid("d1,3,1,8;d1,6,1,0;w3;");
            hoursPass(x, 6);
            x.tune(2);
            offsAre(x, 999, 999);
        });
        holds("T2: within 999: a note that is taken, with NOISE", () -> {
            RoundOfTheA x = laid("d1,3,1,1;d1,3,1,0;d1,3,1,0;w3;");
            hoursPass(x, 6);
            x.tune(7);
            offsAre(x, 999, 999, 999);
        });
        holds("T2: within 999 less than 0: a note that is taken", () -> {
            RoundOfTheA x = laid("d0,3,1,8;d0,0,1,0;w3;");
            hoursPass(x, 6);
            x.tune(2);
            offsAre(x, -999, -999);
        });
        holds("T2: within 999: kept is what counts from then on", () -> {
            RoundOfTheA x = laid("d1,3,1,8;d1,0,1,0;w3;");
            hoursPass(x, 7);
            x.tune(2);
            offsAre(x, 999, 996);
            x = laid("d0,3,1,8;d0,6,1,0;w3;");
            hoursPass(x, 7);
            x.tune(2);
            offsAre(x, -999, -996);
        });
        holds("T2: within 999: a note that is taken, ahead of the hall's getting warmer", () -> {
            RoundOfTheA x = laid("d1,3,1,8;d0,6,60,0;w3;");
            hoursPass(x, 6);
            x.tune(2);
            offsAre(x, 999, 996);
            x = laid("d0,3,1,8;d1,0,60,0;w3;");
            hoursPass(x, 6);
            x.tune(2);
            offsAre(x, -999, -996);
        });
        holds("T2: within 999: the OBOE", () -> {
            RoundOfTheA x = laid("d1,3,1,9;w0;o18,3;");
            for (int i = 0; i < 329; i++) x.tune(1);
            oboeIs(x, 996);
            x.tune(1);
            oboeIs(x, 999);
            x.tune(1);
            oboeIs(x, 999);
            offsAre(x, 999);
        });
        holds("T2: within 999: the OBOE from 998", () -> {
            RoundOfTheA x = laid("d1,3,1,9;w0;o17,3;");
            for (int i = 0; i < 330; i++) x.tune(1);
            oboeIs(x, 998);
            x.tune(1);
            oboeIs(x, 999);
        });
    }

    private void minutesGoBy() {
        holds("P9: n minutes (1 to 60): the ends", () -> {
            RoundOfTheA x = new RoundOfTheA();
            is("minutes(1)", x.minutes(1), 60);
            is("minutes(60)", x.minutes(60), 3660);
        });
        holds("P9: n minutes (1 to 60): BAD else", () -> {
            leavesAll("minutes(0)", BAD, Edges::lived, x -> x.minutes(0));
            leavesAll("minutes(61)", BAD, Edges::lived, x -> x.minutes(61));
            RoundOfTheA x = new RoundOfTheA();
            for (int n : new int[] {-1, -60, 62, 1000, MIN, MAX, MAX / 60, MAX / 60 + 1}) is("minutes(" + n + ")", x.minutes(n), BAD);
        });
        holds("P9: SECONDS in all: what tuning took, too", () -> {
            RoundOfTheA x = laid("d1,3,17,9;");
            x.tune(1);
            is("minutes(2)", x.minutes(2), 137);
        });
    }

    private static void nearlyFull(RoundOfTheA x) {
        // 27 hours are 97200 SECONDS: 46 minutes of the next hour can be, 47 can't.
        writeAll(x, "d2,3,1,9;d0,3,39,9;d0,3,40,9;");
        x.lay();
        hoursPass(x, 27);
    }

    private void minutesRefused() {
        holds("P9: NO: above 99999: 99999 itself can be", () -> {
            RoundOfTheA x = new RoundOfTheA();
            nearlyFull(x);
            x.tune(2);
            is("SECONDS", x.count(1), 97239);
            is("minutes(46)", x.minutes(46), 99999);
        });
        holds("P9: NO: above 99999: by one second", () -> {
            leavesAll("minutes(46)", NO, x -> {
                nearlyFull(x);
                x.tune(4);
            }, x -> x.minutes(46));
            RoundOfTheA x = new RoundOfTheA();
            nearlyFull(x);
            x.tune(4);
            is("minutes(46)", x.minutes(46), NO);
            is("minutes(45) still can be", x.minutes(45), 99940);
        });
        holds("P9: NO: above 99999 already, by tuning", () -> {
            RoundOfTheA x = new RoundOfTheA();
            nearlyFull(x);
            x.minutes(46);
            is("tune is never NO", x.tune(4), 40);
            is("SECONDS", x.count(1), 100000);
            is("minutes(1)", x.minutes(1), NO);
        });
        holds("P9: BAD; NO: of several the first", () -> {
            RoundOfTheA x = new RoundOfTheA();
            nearlyFull(x);
            x.minutes(46);
            is("minutes(1)", x.minutes(1), NO);
            is("minutes(61)", x.minutes(61), BAD);
            is("minutes(0)", x.minutes(0), BAD);
        });
        holds("P9: NO is no more, once that is UNDONE", () -> {
            RoundOfTheA x = new RoundOfTheA();
            nearlyFull(x);
            x.minutes(46);
            x.undo();
            is("minutes(46)", x.minutes(46), 99960);
        });
    }

    private void hearing() {
        holds("P10: another one: the lowest and the highest of eight", () -> {
            RoundOfTheA x = laid(times(8, "d0,3,1,9;"));
            is("hear(0, 7)", x.hear(0, 7), 9);
            is("hear(7, 0)", x.hear(7, 0), 9);
            is("desk 0 HEARS", x.desk(0, 3), 7);
            is("desk 7 HEARS", x.desk(7, 3), 0);
        });
        holds("P10: a NEEDLE (8), the OBOE (9): whom it did", () -> {
            RoundOfTheA x = new RoundOfTheA();
            is("hear(1, 8)", x.hear(1, 8), 0);
            is("hear(1, 9)", x.hear(1, 9), 8);
            is("hear(1, 4)", x.hear(1, 4), 9);
            is("desk 1 HEARS", x.desk(1, 3), 4);
        });
        holds("P10: the one it HEARS already, too", () -> {
            RoundOfTheA x = new RoundOfTheA();
            is("hear(0, 9)", x.hear(0, 9), 9);
            is("can be UNDONE", x.count(4), 1);
        });
        holds("P10: a DESK: a FIXED one, too", () -> {
            RoundOfTheA x = new RoundOfTheA();
            is("hear(3, 0)", x.hear(3, 0), 9);
            is("desk 3 HEARS", x.desk(3, 3), 0);
        });
        holds("P10: hearing takes no SECONDS and no note", () -> {
            RoundOfTheA x = new RoundOfTheA();
            x.hear(2, 0);
            offsAre(x, 5, 0, 0, 2, 0);
            is("SECONDS", x.count(1), 0);
        });
    }

    private void hearingRefused() {
        holds("P10: BAD: itself, too", () -> {
            leavesAll("hear(2, 2)", BAD, Edges::lived, x -> x.hear(2, 2));
            RoundOfTheA x = laid(times(8, "d0,3,1,9;"));
            for (int i = 0; i < 8; i++) is("hear(" + i + ", " + i + ")", x.hear(i, i), BAD);
        });
        holds("P10: BAD: no such DESK hears", () -> {
            leavesAll("hear(5, 0)", BAD, Edges::lived, x -> x.hear(5, 0));
            RoundOfTheA x = new RoundOfTheA();
            for (int i : new int[] {-1, 5, 7, 8, 9, MIN, MAX}) is("hear(" + i + ", 9)", x.hear(i, 9), BAD);
        });
        holds("P10: BAD: no such DESK is heard", () -> {
            leavesAll("hear(0, 5)", BAD, Edges::lived, x -> x.hear(0, 5));
            RoundOfTheA x = new RoundOfTheA();
            for (int whom : new int[] {-1, 5, 6, 7, 10, 11, MIN, MAX}) is("hear(0, " + whom + ")", x.hear(0, whom), BAD);
        });
        holds("P10: BAD: there is one DESK alone", () -> {
            RoundOfTheA x = laid("d0,3,1,9;");
            is("hear(0, 0)", x.hear(0, 0), BAD);
            is("hear(0, 1)", x.hear(0, 1), BAD);
            is("hear(0, 8)", x.hear(0, 8), 9);
        });
    }

    private void undoing() {
        holds("P11: NO: nothing is UNDONE at first", () -> leavesAll("undo", NO, x -> { }, x -> x.undo()));
        holds("P11: NO: all is UNDONE", () -> {
            RoundOfTheA x = new RoundOfTheA();
            x.tune(1);
            is("undo", x.undo(), 0);
            is("undo again", x.undo(), NO);
            offsAre(x, 5, 0, 0, 2, 0);
        });
        holds("P11: how many more can be", () -> {
            RoundOfTheA x = new RoundOfTheA();
            x.tune(1);
            x.minutes(1);
            x.hear(0, 8);
            is("undo", x.undo(), 2);
            is("undo", x.undo(), 1);
            is("undo", x.undo(), 0);
        });
        holds("T2: UNDONE is the latest of these", () -> {
            RoundOfTheA x = new RoundOfTheA();
            x.minutes(1);
            x.hear(0, 8);
            x.undo();
            is("desk 0 HEARS", x.desk(0, 3), 9);
            is("SECONDS", x.count(1), 60);
        });
        holds("T2: a set TUNES: UNDONE at once for all of it, OBOE, SECONDS, warmth", () -> {
            RoundOfTheA x = laid("d1,4,60,9;d0,4,60,9;d2,3,1,9;w3;o9,3;p0,30;p2,15;");
            x.tune(7);
            is("undo", x.undo(), 0);
            offsAre(x, 10, 0, -5);
            oboeIs(x, 0);
            is("SECONDS", x.count(1), 0);
            is("degrees", x.count(2), 0);
        });
        holds("T2: n minutes: UNDONE at once", () -> {
            RoundOfTheA x = laid("d0,3,1,9;d1,3,1,9;w3;");
            x.minutes(1);
            x.minutes(60);
            is("undo", x.undo(), 1);
            offsAre(x, -3, 3);
            is("SECONDS", x.count(1), 60);
        });
        holds("T2: UNDONE where it was kept within 999: as it was, not as it comes out backwards", () -> {
            RoundOfTheA x = laid("d1,3,1,9;w3;");
            hoursPass(x, 5);
            x.minutes(32);
            x.minutes(60);
            x.undo();
            offsAre(x, 996);
        });
    }

    private void lastEight() {
        holds("T2: the last 8 can be: eight", () -> {
            RoundOfTheA x = new RoundOfTheA();
            for (int i = 1; i <= 8; i++) {
                x.minutes(1);
                is("can be UNDONE", x.count(4), i);
            }
            for (int i = 7; i >= 0; i--) is("undo", x.undo(), i);
            is("SECONDS", x.count(1), 0);
            is("undo", x.undo(), NO);
        });
        holds("T2: the last 8 can be: of nine the first can't", () -> {
            RoundOfTheA x = new RoundOfTheA();
            for (int i = 0; i < 9; i++) x.minutes(1);
            is("can be UNDONE", x.count(4), 8);
            for (int i = 7; i >= 0; i--) {
                is("undo", x.undo(), i);
                is("SECONDS", x.count(1), 60 * (i + 1));
            }
            is("undo", x.undo(), NO);
            is("SECONDS", x.count(1), 60);
        });
        holds("T2: the last 8 can be: of many, some UNDONE in between", () -> {
            RoundOfTheA x = new RoundOfTheA();
            for (int i = 0; i < 13; i++) x.minutes(1);
            for (int i = 0; i < 5; i++) x.undo();
            is("can be UNDONE", x.count(4), 3);
            for (int i = 0; i < 4; i++) x.minutes(2);
            is("can be UNDONE", x.count(4), 7);
            is("SECONDS", x.count(1), 960);
            for (int i = 3; i >= 0; i--) {
                x.undo();
                is("SECONDS", x.count(1), 480 + 120 * i);
            }
            for (int i = 2; i >= 0; i--) {
                is("undo", x.undo(), i);
                is("SECONDS", x.count(1), 300 + 60 * i);
            }
            is("undo", x.undo(), NO);
        });
        holds("T2: such by which nothing becomes another, too", () -> {
            RoundOfTheA x = laid("d2,3,1,9;d1,3,1,8;");
            is("tune of FIXED ones", x.tune(1), 0);
            is("can be UNDONE", x.count(4), 1);
            is("hear whom it HEARS", x.hear(1, 8), 8);
            is("can be UNDONE", x.count(4), 2);
            is("undo", x.undo(), 1);
            is("undo", x.undo(), 0);
            is("undo", x.undo(), NO);
        });
        holds("T2: such by which nothing becomes another push others out, too", () -> {
            RoundOfTheA x = laid("d2,3,1,9;d1,3,1,8;");
            x.minutes(1);
            for (int i = 0; i < 8; i++) x.hear(1, 8);
            for (int i = 0; i < 8; i++) x.undo();
            is("undo", x.undo(), NO);
            is("SECONDS", x.count(1), 60);
        });
    }

    private void notUndone() {
        holds("T2: what is HEARD TOGETHER is not UNDONE", () -> {
            RoundOfTheA x = new RoundOfTheA();
            x.minutes(1);
            x.together(1, 200);
            is("can be UNDONE", x.count(4), 1);
            x.undo();
            is("HEARD TOGETHER", x.count(3), 1);
            x.forget();
            is("undo", x.undo(), NO);
            is("HEARD TOGETHER", x.count(3), 0);
        });
        holds("T2: what is KEPT is not UNDONE", () -> {
            RoundOfTheA x = new RoundOfTheA();
            x.minutes(1);
            x.keep();
            is("can be UNDONE", x.count(4), 1);
            x.undo();
            is("KEPT", x.count(5), 1);
            x.back();
            is("SECONDS", x.count(1), 60);
        });
        holds("T2: THE TEXT is not UNDONE", () -> {
            RoundOfTheA x = new RoundOfTheA();
            x.minutes(1);
            x.write('d');
            x.undo();
            is("letters", x.count(6), 1);
        });
        holds("T2: what would be is not UNDONE", () -> {
            RoundOfTheA x = new RoundOfTheA();
            x.round(-1);
            x.halves(0);
            x.ear(0, 0);
            x.again();
            x.needles(1, 0);
            x.blame(0);
            x.odds(5, 0);
            x.evening(7, 0);
            is("can be UNDONE", x.count(4), 0);
            alike("behind what would be", x, new RoundOfTheA());
        });
        holds("T2: a refused call is not UNDONE", () -> {
            RoundOfTheA x = new RoundOfTheA();
            x.tune(0);
            x.minutes(0);
            x.hear(0, 0);
            is("can be UNDONE", x.count(4), 0);
        });
    }

    private void spreads() {
        holds("P12: one DESK", () -> is("spread", laid("d0,3,1,9;p0,40;").spread(), 0));
        holds("P12: all alike", () -> is("spread", laid("d0,3,1,9;d1,3,1,9;p0,33;p1,33;").spread(), 0));
        holds("P12: above and below the A, the OBOE is no DESK", () -> {
            is("spread", laid("d0,3,1,9;d0,3,1,9;p0,0;p1,40;").spread(), 40);
            is("spread of both below", laid("d0,3,1,9;d0,3,1,9;p0,0;p1,5;o18,0;").spread(), 5);
            is("spread of both above", laid("d0,3,1,9;d0,3,1,9;p0,40;p1,30;o0,0;").spread(), 10);
        });
        holds("P12: the ends: 999 and 999 less than 0", () -> {
            RoundOfTheA x = laid("d0,3,1,9;d1,3,1,9;w3;");
            hoursPass(x, 6);
            is("spread", x.spread(), 1998);
        });
        holds("P12: the last of eight", () -> is("spread", laid(times(8, "d0,3,1,9;") + "p7,1;").spread(), 19));
    }

    private void heardTwos() {
        holds("P13: apart by more than D: D itself is not", () -> {
            is("by 3", laid("d0,3,1,9;d0,3,1,9;p0,23;").heard(), 0);
            is("by 4", laid("d0,3,1,9;d0,3,1,9;p0,24;").heard(), 1);
            is("by 3 below", laid("d0,3,1,9;d0,3,1,9;p0,17;").heard(), 0);
            is("by 4 below", laid("d0,3,1,9;d0,3,1,9;p0,16;").heard(), 1);
        });
        holds("P13: D 1 and 20", () -> {
            is("by 1", laid("d0,3,1,9;d0,3,1,9;p0,21;h1;").heard(), 0);
            is("by 2", laid("d0,3,1,9;d0,3,1,9;p0,22;h1;").heard(), 1);
            is("by 20", laid("d0,3,1,9;d0,3,1,9;p0,40;h20;").heard(), 0);
            is("by 21", laid("d0,3,1,9;d0,3,1,9;p0,40;p1,19;h20;").heard(), 1);
        });
        holds("P13: twos: none of one DESK, the OBOE is no DESK", () -> is("heard", laid("d0,3,1,9;p0,40;o0,0;").heard(), 0));
        holds("P13: twos: all 28 of eight", () -> {
            String apart = "p0,0;p1,3;p2,6;p3,9;p4,12;p5,15;p6,18;p7,21;h2;";
            is("heard", laid(times(8, "d0,3,1,9;") + apart).heard(), 28);
        });
    }

    private void meanIs(RoundOfTheA x, int above, int below) {
        is("mean(0)", x.mean(0), above);
        is("mean(1)", x.mean(1), below);
    }

    private void means() {
        holds("P14: MEAN, and 1000: one DESK", () -> meanIs(laid("d0,3,1,9;"), 1000, 1));
        holds("P14: MEAN, and 1000: below the A", () -> meanIs(laid("d0,3,1,9;d0,3,1,9;p0,19;"), 1999, 2));
        holds("P14: in lowest terms", () -> {
            meanIs(laid(times(8, "d0,3,1,9;") + "p0,24;"), 2001, 2);
            meanIs(laid(times(6, "d0,3,1,9;") + "p0,24;"), 3002, 3);
            meanIs(laid(times(8, "d0,3,1,9;") + "p0,28;"), 1001, 1);
            meanIs(laid(times(8, "d0,3,1,9;") + "p0,21;"), 8001, 8);
        });
        holds("P14: MEAN at the ends: 999 and 999 less than 0", () -> {
            RoundOfTheA x = laid("d1,3,1,9;d1,3,1,9;w3;");
            hoursPass(x, 6);
            meanIs(x, 1999, 1);
            x = laid("d0,3,1,9;d3,3,1,9;w3;");
            hoursPass(x, 6);
            meanIs(x, 1, 1);
        });
        holds("P14: the OBOE is no DESK", () -> meanIs(laid("d0,3,1,9;o18,0;"), 1000, 1));
        holds("P14: BAD: part (0, 1)", () -> {
            RoundOfTheA x = new RoundOfTheA();
            for (int part : new int[] {-1, 2, MIN, MAX}) is("mean(" + part + ")", x.mean(part), BAD);
        });
    }
}
