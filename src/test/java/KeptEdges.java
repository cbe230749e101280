/** Boundary cases of promises 28 to 30, and arguments far from any that is told, for every call. */
final class KeptEdges extends Edges {
    private KeptEdges(Due due) {
        super(due);
    }

    static void run(Due due) {
        KeptEdges edges = new KeptEdges(due);
        edges.keeping();
        edges.goingBack();
        edges.backRefused();
        edges.whatIsKept();
        edges.counts();
        edges.countsAtTheirMost();
        edges.farArguments();
    }

    private void keeping() {
        holds("P28: how many: 1, 2", () -> {
            RoundOfTheA x = new RoundOfTheA();
            is("keep", x.keep(), 1);
            is("keep", x.keep(), 2);
        });
        holds("T4: 2 at most: FULL", () -> {
            leavesAll("keep of three", FULL, KeptEdges::twoKept, x -> x.keep());
            RoundOfTheA x = new RoundOfTheA();
            twoKept(x);
            x.minutes(5);
            x.keep();
            x.back();
            is("SECONDS as KEPT second", x.count(1), 60);
        });
        holds("P28: there is room again behind back", () -> {
            RoundOfTheA x = new RoundOfTheA();
            twoKept(x);
            x.back();
            x.minutes(9);
            is("keep", x.keep(), 2);
            is("keep", x.keep(), FULL);
            x.back();
            is("SECONDS", x.count(1), 600);
            x.back();
            is("SECONDS at first", x.count(1), 0);
        });
        holds("P28: keeping changes nothing and is not UNDONE", () -> {
            RoundOfTheA x = new RoundOfTheA();
            x.tune(3);
            x.keep();
            is("can be UNDONE", x.count(4), 1);
            is("undo", x.undo(), 0);
            is("KEPT", x.count(5), 1);
        });
        holds("P28: the same can be KEPT twice", () -> {
            RoundOfTheA x = new RoundOfTheA();
            x.keep();
            x.keep();
            is("back", x.back(), 1);
            is("back", x.back(), 0);
            offsAre(x, 5, 0, 0, 2, 0);
        });
    }

    private static void twoKept(RoundOfTheA x) {
        x.keep();
        x.minutes(1);
        x.keep();
    }

    private void goingBack() {
        holds("P29: as KEPT last", () -> {
            RoundOfTheA x = new RoundOfTheA();
            twoKept(x);
            x.minutes(7);
            is("back", x.back(), 1);
            is("SECONDS", x.count(1), 60);
        });
        holds("P29: it is KEPT no more then: how many are left", () -> {
            RoundOfTheA x = new RoundOfTheA();
            twoKept(x);
            is("back", x.back(), 1);
            is("KEPT", x.count(5), 1);
            is("back", x.back(), 0);
            is("KEPT", x.count(5), 0);
            is("SECONDS", x.count(1), 0);
        });
        holds("P29: nothing is UNDONE then", () -> {
            RoundOfTheA x = new RoundOfTheA();
            x.minutes(1);
            x.keep();
            for (int i = 0; i < 9; i++) x.minutes(1);
            x.back();
            is("can be UNDONE", x.count(4), 0);
            is("undo", x.undo(), NO);
            x.minutes(2);
            is("can be UNDONE", x.count(4), 1);
            is("undo", x.undo(), 0);
            is("SECONDS", x.count(1), 60);
            is("undo", x.undo(), NO);
        });
    }

    private void backRefused() {
        holds("P29: NO: nothing is KEPT at first", () -> leavesAll("back", NO, x -> {
            x.minutes(1);
            x.together(1, 200);
        }, x -> x.back()));
        holds("P29: NO: nothing is KEPT any more", () -> leavesAll("back", NO, x -> {
            twoKept(x);
            x.back();
            x.back();
            x.minutes(2);
        }, x -> x.back()));
        holds("P29: NO: what could be UNDONE still can", () -> {
            RoundOfTheA x = new RoundOfTheA();
            x.minutes(1);
            is("back", x.back(), NO);
            is("undo", x.undo(), 0);
        });
    }

    private void whatIsKept() {
        holds("T4: KEPT are all OFF", () -> {
            RoundOfTheA x = laid(times(8, "d1,4,1,9;") + "w1;p0,0;p7,40;");
            x.keep();
            x.minutes(3);
            x.tune(255);
            x.back();
            offsAre(x, -20, 0, 0, 0, 0, 0, 0, 20);
        });
        holds("T4: KEPT is the OBOE", () -> {
            RoundOfTheA x = laid("d1,3,1,9;o18,3;");
            x.keep();
            x.tune(1);
            x.back();
            oboeIs(x, 9);
        });
        holds("T4: KEPT are SECONDS, not full minutes alone", () -> {
            RoundOfTheA x = laid("d1,3,59,8;w1;");
            x.tune(1);
            x.keep();
            x.tune(1);
            x.back();
            is("SECONDS", x.count(1), 59);
            is("degrees", x.count(2), 0);
            x.tune(1);
            offsAre(x, 1);
        });
        holds("T4: KEPT is who HEARS whom", () -> {
            RoundOfTheA x = laid(times(8, "d1,4,1,9;"));
            x.hear(7, 0);
            x.keep();
            x.hear(7, 8);
            x.hear(0, 7);
            x.back();
            is("desk 7 HEARS", x.desk(7, 3), 0);
            is("desk 0 HEARS", x.desk(0, 3), 9);
        });
        holds("T4: KEPT is not what is HEARD TOGETHER, nor THE TEXT", () -> {
            RoundOfTheA x = new RoundOfTheA();
            x.keep();
            x.together(1, 200);
            x.write('d');
            x.back();
            is("HEARD TOGETHER", x.count(3), 1);
            is("letters", x.count(6), 1);
        });
    }

    private void counts() {
        holds("P30: BAD: what (0 to 7)", () -> {
            RoundOfTheA x = new RoundOfTheA();
            for (int what : new int[] {-1, 8, 9, MIN, MAX}) is("count(" + what + ")", x.count(what), BAD);
            leavesAll("count(8)", BAD, Edges::lived, y -> y.count(8));
        });
        holds("P30: each of them at its least", () -> {
            RoundOfTheA x = laid("d0,3,1,9;h1;");
            x.wipe();
            int[] want = {1, 0, 0, 0, 0, 0, 0, 1};
            for (int what = 0; what < 8; what++) is("count(" + what + ")", x.count(what), want[what]);
        });
        holds("P30: degrees warmer than at first: full minutes by B", () -> {
            RoundOfTheA x = laid("d0,3,59,9;w2;");
            x.tune(1);
            is("of 59 seconds", x.count(2), 0);
            x.tune(1);
            is("of 118 seconds", x.count(2), 2);
            x.tune(1);
            is("of 177 seconds", x.count(2), 4);
            x.undo();
            is("undone", x.count(2), 2);
        });
    }

    private void countsAtTheirMost() {
        holds("P30: each of them at its most", () -> {
            RoundOfTheA x = laid(times(8, "d0,3,1,9;") + "w3;h20;");
            writeAll(x, times(121, "x"));
            hoursPass(x, 27);
            x.minutes(46);
            for (int i = 0; i < 8; i++) x.together(1, 200);
            x.keep();
            x.keep();
            int[] want = {8, 99960, 4998, 8, 8, 2, 200, 20};
            for (int what = 0; what < 8; what++) is("count(" + what + ")", x.count(what), want[what]);
        });
    }

    private void farArguments() {
        int[] far = {MIN, MIN + 1, -1000000, -1000, -5, 1000, 65536, 1 << 30, MAX - 1, MAX};
        holds("BAD: a number is none that is told: far ones, first argument", () -> {
            RoundOfTheA x = new RoundOfTheA();
            for (int n : far) {
                int[] got = {x.write(n), x.desk(n, 0), x.off(n), x.tune(n), x.minutes(n), x.hear(n, 0), x.mean(n), x.round(n), x.halves(n),
                    x.way(n, 0), x.ear(n, 0), x.needles(n, 0), x.blame(n), x.fifths(n, 0, 0), x.together(n, 200), x.high(n), x.odds(n, 0), x.count(n)};
                for (int i = 0; i < got.length; i++) is("call " + i + " with " + n, got[i], BAD);
                if (n < 0 || n > 9999) is("evening(" + n + ", 0)", x.evening(n, 0), BAD);
            }
            alike("behind far ones", x, new RoundOfTheA());
        });
        holds("BAD: a number is none that is told: far ones, other arguments", () -> {
            RoundOfTheA x = new RoundOfTheA();
            for (int n : far) {
                int[] got = {x.desk(0, n), x.hear(0, n), x.way(0, n), x.ear(0, n), x.needles(1, n), x.fifths(0, n, 0), x.fifths(0, 0, n),
                    x.together(1, n), x.odds(0, n), x.evening(0, n)};
                for (int i = 0; i < got.length; i++) is("call " + i + " with " + n, got[i], BAD);
            }
            alike("behind far ones", x, new RoundOfTheA());
        });
        holds("BAD: far ones on an object in the midst of its life: nothing changes", () -> {
            for (int n : new int[] {MIN, MAX}) {
                leavesAll("tune " + n, BAD, Edges::lived, x -> x.tune(n));
                leavesAll("minutes " + n, BAD, Edges::lived, x -> x.minutes(n));
                leavesAll("hear " + n, BAD, Edges::lived, x -> x.hear(n, n));
                leavesAll("together " + n, BAD, Edges::lived, x -> x.together(n, n));
                leavesAll("write " + n, BAD, Edges::lived, x -> x.write(n));
            }
        });
    }
}
