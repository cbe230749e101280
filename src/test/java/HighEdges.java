/** Boundary cases of promises 23 to 27, and of what they rest on (part 4). */
final class HighEdges extends Edges {
    private HighEdges(Due due) {
        super(due);
    }

    static void run(Due due) {
        HighEdges edges = new HighEdges(due);
        edges.together();
        edges.togetherRefused();
        edges.forgetting();
        edges.high();
        edges.highOfSlips();
        edges.odds();
        edges.oddsWithin();
        edges.evenings();
        edges.draws();
        edges.drawsKeptWithin();
        edges.nothingChanges();
    }

    private void together() {
        holds("P23: how many: 1 to 8", () -> {
            RoundOfTheA x = new RoundOfTheA();
            for (int i = 1; i <= 8; i++) is("together " + i, x.together(i, 200), i);
        });
        holds("T4: v 0 to 400: the ends", () -> {
            RoundOfTheA x = new RoundOfTheA();
            is("together(1, 0)", x.together(1, 0), 1);
            is("together(1, 400)", x.together(1, 400), 2);
        });
        holds("T4: comes to v less 200: the ends", () -> {
            RoundOfTheA up = laid("d1,3,1,9;w1;");
            hoursPass(up, 3);
            up.minutes(11);
            up.together(1, 400);
            highIs(up, 1, 18);
            RoundOfTheA down = laid("d0,3,1,9;w1;");
            hoursPass(down, 3);
            down.minutes(11);
            down.together(1, 0);
            highIs(down, 1, 0);
        });
        holds("P23: a set of DESKS: all of them, the highest alone", () -> {
            is("together(31, 200) of five", new RoundOfTheA().together(31, 200), 1);
            is("together(255, 200) of eight", laid(times(8, "d0,3,1,9;")).together(255, 200), 1);
            is("together(128, 200) of eight", laid(times(8, "d0,3,1,9;")).together(128, 200), 1);
            is("together(1, 200) of one", laid("d0,3,1,9;").together(1, 200), 1);
        });
    }

    private void togetherRefused() {
        holds("P23: BAD (the empty set, too)", () -> leavesAll("together(0, 200)", BAD, Edges::lived, x -> x.together(0, 200)));
        holds("P23: BAD: sets of such DESKS as there are", () -> {
            leavesAll("together(32, 200)", BAD, Edges::lived, x -> x.together(32, 200));
            RoundOfTheA x = new RoundOfTheA();
            for (int set : new int[] {33, 255, 256, -1, MIN, MAX}) is("together(" + set + ", 200)", x.together(set, 200), BAD);
            is("together(2, 200) of one", laid("d0,3,1,9;").together(2, 200), BAD);
            is("together(256, 200) of eight", laid(times(8, "d0,3,1,9;")).together(256, 200), BAD);
        });
        holds("P23: BAD: v (0 to 400)", () -> {
            leavesAll("together(1, -1)", BAD, Edges::lived, x -> x.together(1, -1));
            leavesAll("together(1, 401)", BAD, Edges::lived, x -> x.together(1, 401));
            RoundOfTheA x = new RoundOfTheA();
            for (int v : new int[] {-200, 1000, MIN, MAX}) is("together(1, " + v + ")", x.together(1, v), BAD);
        });
        holds("T4: 8 at most: FULL", () -> {
            leavesAll("together of nine", FULL, HighEdges::eightTogether, x -> x.together(2, 200));
            RoundOfTheA x = new RoundOfTheA();
            eightTogether(x);
            is("the same once more", x.together(1, 205), FULL);
        });
        holds("P23: BAD; FULL: of several the first", () -> {
            RoundOfTheA x = new RoundOfTheA();
            eightTogether(x);
            is("together(0, 200)", x.together(0, 200), BAD);
            is("together(32, 200)", x.together(32, 200), BAD);
            is("together(1, 401)", x.together(1, 401), BAD);
        });
    }

    private static void eightTogether(RoundOfTheA x) {
        for (int i = 0; i < 8; i++) x.together(1, 205);
    }

    private void forgetting() {
        holds("P24: how many were: none", () -> {
            RoundOfTheA x = new RoundOfTheA();
            is("forget", x.forget(), 0);
            is("HEARD TOGETHER", x.count(3), 0);
        });
        holds("P24: how many were: 8", () -> {
            RoundOfTheA x = new RoundOfTheA();
            eightTogether(x);
            is("forget", x.forget(), 8);
            is("forget again", x.forget(), 0);
        });
        holds("P24: nothing is HEARD TOGETHER: there is room for 8", () -> {
            RoundOfTheA x = new RoundOfTheA();
            eightTogether(x);
            x.forget();
            highIs(x, 90, 0);
            for (int i = 1; i <= 8; i++) is("together " + i, x.together(2, 200), i);
            is("together of nine", x.together(2, 200), FULL);
        });
    }

    private void highIs(RoundOfTheA x, int many, int first) {
        is("high(0)", x.high(0), many);
        is("high(1)", x.high(1), first);
    }

    private void high() {
        holds("P25: BAD: what (0, 1)", () -> {
            RoundOfTheA x = new RoundOfTheA();
            for (int what : new int[] {-1, 2, MIN, MAX}) is("high(" + what + ")", x.high(what), BAD);
        });
        holds("P25: NONE; BAD: of several the first is BAD", () -> {
            RoundOfTheA x = new RoundOfTheA();
            x.together(31, 400);
            highIs(x, 0, NONE);
            is("high(2)", x.high(2), BAD);
        });
        holds("T4: HIGH: nothing HEARD TOGETHER: all of them", () -> {
            highIs(laid("d0,3,1,9;"), 18, 0);
            highIs(laid(times(8, "d0,3,1,9;")), 144, 0);
        });
        holds("T4: HIGH: all that was HEARD TOGETHER is so: each of 8", () -> {
            RoundOfTheA x = laid(times(8, "d2,3,1,9;"));
            for (int i = 0; i < 7; i++) x.together(1 << i, 200);
            highIs(x, 18, 140);
            x.together(128, 204);
            highIs(x, 1, 153);
        });
        holds("T4: HIGH: all that was HEARD TOGETHER is so: two that can't be both", () -> {
            RoundOfTheA x = laid("d0,3,1,9;d0,3,1,9;");
            x.together(1, 201);
            highIs(x, 1, 10);
            x.together(2, 201);
            highIs(x, 0, NONE);
        });
        holds("T4: HIGH: than it is now", () -> {
            RoundOfTheA x = laid("d1,3,1,9;w1;");
            x.together(1, 205);
            highIs(x, 1, 14);
            x.minutes(2);
            highIs(x, 1, 12);
            x.undo();
            highIs(x, 1, 14);
        });
        holds("T4: HIGH: also beyond 999", () -> {
            RoundOfTheA x = laid("d1,3,1,9;d0,3,1,9;w3;");
            hoursPass(x, 6);
            x.together(3, 209);
            highIs(x, 2, 18);
            x.forget();
            x.together(3, 191);
            highIs(x, 2, 0);
        });
    }

    private void highOfSlips() {
        holds("T4: slips from 9 less than 0", () -> {
            RoundOfTheA x = laid("d2,3,1,9;");
            x.together(1, 191);
            highIs(x, 1, 0);
            x.forget();
            x.together(1, 190);
            highIs(x, 0, NONE);
        });
        holds("T4: slips to 9", () -> {
            RoundOfTheA x = laid("d2,3,1,9;");
            x.together(1, 209);
            highIs(x, 1, 18);
            x.forget();
            x.together(1, 210);
            highIs(x, 0, NONE);
        });
        holds("T4: slips (but 0)", () -> {
            RoundOfTheA x = laid("d2,3,1,9;");
            x.together(1, 200);
            highIs(x, 0, NONE);
            x.forget();
            x.together(1, 199);
            highIs(x, 1, 8);
            x.forget();
            x.together(1, 201);
            highIs(x, 1, 10);
        });
        holds("P25: the first: the last there can be", () -> {
            RoundOfTheA x = laid(times(8, "d2,3,1,9;"));
            x.together(127, 200);
            x.together(128, 209);
            highIs(x, 1, 158);
        });
        holds("T4: HIGH: the first by DESK, then slip", () -> {
            RoundOfTheA x = laid("d2,3,1,9;d2,3,1,9;d2,3,1,9;");
            x.together(1, 200);
            highIs(x, 36, 20);
            x.forget();
            x.together(6, 203);
            highIs(x, 2, 32);
        });
    }

    private void oddsAre(RoundOfTheA x, int tenths, int above, int below) {
        is("odds(" + tenths + ", 0)", x.odds(tenths, 0), above);
        is("odds(" + tenths + ", 1)", x.odds(tenths, 1), below);
    }

    private void odds() {
        holds("P26: x (0 to 10): BAD else", () -> {
            RoundOfTheA x = new RoundOfTheA();
            for (int n : new int[] {-1, 11, MIN, MAX}) is("odds(" + n + ", 0)", x.odds(n, 0), BAD);
        });
        holds("P26: BAD: part (0, 1)", () -> {
            RoundOfTheA x = new RoundOfTheA();
            for (int part : new int[] {-1, 2, MIN, MAX}) is("odds(0, " + part + ")", x.odds(0, part), BAD);
        });
        holds("T4: ODDS: x 0: nobody slips", () -> {
            oddsAre(laid("d0,3,1,9;d1,3,1,9;"), 0, 1, 1);
            oddsAre(laid("d0,3,1,9;d1,3,1,9;p0,24;"), 0, 0, 1);
        });
        holds("T4: ODDS: x 10: all of them slip", () -> {
            oddsAre(laid("d0,3,1,9;d1,3,1,9;"), 10, 0, 1);
            oddsAre(laid("d0,3,1,9;d3,3,1,9;"), 10, 1, 1);
            oddsAre(laid("d0,3,1,9;d1,3,1,9;p0,24;"), 10, 1, 1);
        });
        holds("T4: ODDS: each STRING and HARP, no WIND, no FIXED one", () -> {
            oddsAre(laid("d0,3,1,9;d3,3,1,9;d2,3,1,9;d1,3,1,9;"), 3, 49, 100);
            oddsAre(laid("d1,3,1,9;d2,3,1,9;"), 10, 1, 1);
            oddsAre(laid("d1,3,1,9;d2,3,1,9;p0,24;"), 5, 0, 1);
        });
        holds("T4: ODDS: each STRING and HARP, others told ahead of them", () -> {
            oddsAre(laid("d2,3,1,9;d1,3,1,9;d0,3,1,9;d3,3,1,9;h20;"), 5, 1, 1);
            oddsAre(laid("d2,3,1,9;d1,3,1,9;d0,3,1,9;d3,3,1,9;"), 3, 49, 100);
        });
        holds("T4: ODDS: by 4 HAIRS: D 3 is less, D 4 is not", () -> {
            oddsAre(laid("d0,3,1,9;d2,3,1,9;h3;"), 4, 3, 5);
            oddsAre(laid("d0,3,1,9;d2,3,1,9;h4;"), 4, 1, 1);
        });
        holds("T4: ODDS: in lowest terms", () -> {
            oddsAre(laid("d0,3,1,9;d2,3,1,9;"), 5, 1, 2);
            oddsAre(laid("d0,3,1,9;d2,3,1,9;"), 9, 1, 10);
            oddsAre(laid("d0,3,1,9;d3,3,1,9;"), 1, 41, 50);
        });
        holds("T4: ODDS: eight for themselves", () -> {
            RoundOfTheA x = laid(times(8, "d3,3,1,9;"));
            oddsAre(x, 5, 1, 128);
            // 1 and 9 to the eighth are 43046722 of a hundred millions.
            oddsAre(x, 1, 21523361, 50000000);
        });
        holds("P26: one DESK is never heard", () -> oddsAre(laid("d0,3,1,9;h1;"), 7, 1, 1));
    }

    private void oddsWithin() {
        holds("T4: ODDS: kept within, too", () -> {
            RoundOfTheA x = laid("d0,3,1,9;d0,3,1,9;w3;h1;");
            hoursPass(x, 6);
            oddsAre(x, 5, 1, 1);
        });
        holds("T4: ODDS: kept within, too: from 997 less than 0", () -> {
            // Down to 999 less than 0 is by 2 alone, and D is 2.
            RoundOfTheA x = laid("d0,3,1,9;d0,3,1,9;w3;h2;p0,22;p1,22;");
            hoursPass(x, 5);
            x.minutes(33);
            offsAre(x, -997, -997);
            oddsAre(x, 5, 1, 1);
            is("D 1 less", laid("d0,3,1,9;d0,3,1,9;h2;").odds(5, 1), 2);
        });
    }

    private void evenings() {
        holds("P27: z (0 to 9999): BAD else", () -> {
            RoundOfTheA x = new RoundOfTheA();
            for (int z : new int[] {-1, 10000, MIN, MAX}) is("evening(" + z + ", 0)", x.evening(z, 0), BAD);
        });
        holds("P27: BAD: what (0, 1)", () -> {
            RoundOfTheA x = new RoundOfTheA();
            for (int what : new int[] {-1, 2, MIN, MAX}) is("evening(0, " + what + ")", x.evening(0, what), BAD);
        });
        holds("P27: nobody takes the note", () -> {
            RoundOfTheA x = laid("d2,3,1,9;d2,3,1,9;p0,40;");
            is("evening(9999, 0)", x.evening(9999, 0), 20);
            is("evening(9999, 1)", x.evening(9999, 1), 1);
        });
        holds("P27: one DESK", () -> {
            RoundOfTheA x = laid("d1,3,1,9;");
            is("evening(0, 0)", x.evening(0, 0), 0);
            is("evening(0, 1)", x.evening(0, 1), 0);
        });
    }

    // Worked out apart from the program: z 0 draws 0, -1, -1, -1, 1, 1, 1, 0; z 9999 draws -1, 1, -1, 0, 0, 1, -1, -1;
    // z 9998 draws 0, 1, 0, 1, -1, 1, 0, 1; z 1 begins by -1, 0; z 3 by -1, 1; z 8 by 1, 1.
    private void draws() {
        holds("T4: DRAW: eight draws, from a NEEDLE, too; squares beyond an int's end", () -> {
            RoundOfTheA x = laid(times(8, "d1,3,1,8;") + "w0;h1;");
            int[][] want = {{0, 2, 9}, {9999, 2, 8}, {9998, 2, 4}};
            for (int[] row : want) {
                is("evening(" + row[0] + ", 0)", x.evening(row[0], 0), row[1]);
                is("evening(" + row[0] + ", 1)", x.evening(row[0], 1), row[2]);
            }
        });
        holds("T4: DRAW: by GROUPS, then by numbers", () -> {
            is("one group", laid("d1,3,1,9;d1,3,1,8;w0;o18,0;").evening(1, 0), 8);
            is("by groups", laid("d1,3,1,9;d1,3,1,8;w0;o18,0;g0,1;").evening(1, 0), 10);
        });
        holds("T4: DRAW: of the k-th one that takes the note: FIXED ones have none", () ->
            is("evening(1, 0)", laid("d2,3,1,9;d1,3,1,8;d1,3,1,9;w0;o18,0;").evening(1, 0), 10));
        holds("T4: DRAW: who hears a DESK that was drawn for", () ->
            is("evening(8, 0)", laid("d1,3,1,1;d1,3,1,8;d2,3,1,9;w0;g0,1;").evening(8, 0), 2));
        holds("T4: DRAW: the first is 0 again at each EVENING", () -> {
            RoundOfTheA x = laid("d1,3,1,9;d1,3,1,8;w0;o18,0;");
            is("evening(1, 0)", x.evening(1, 0), 8);
            is("evening(1, 0) again", x.evening(1, 0), 8);
        });
        holds("T4: DRAW: nothing but an EVENING draws", () -> {
            RoundOfTheA x = laid("d1,3,1,9;d1,3,1,8;w0;o18,0;");
            x.evening(1, 0);
            is("round(-1)", x.round(-1), 9);
            is("blame(1)", x.blame(1), 9);
            x.tune(3);
            offsAre(x, 9, 0);
        });
        holds("T4: EVENING: HEARD: D itself is not", () -> {
            is("D 8", laid("d1,3,1,9;d1,3,1,8;w0;o18,0;h8;").evening(1, 1), 0);
            is("D 7", laid("d1,3,1,9;d1,3,1,8;w0;o18,0;h7;").evening(1, 1), 1);
        });
    }

    private void drawsKeptWithin() {
        holds("T2: within 999: by DRAW, too", () -> {
            RoundOfTheA x = laid("d1,3,1,1;d1,3,1,0;w3;");
            hoursPass(x, 6);
            is("evening(3, 0)", x.evening(3, 0), 1);
        });
        holds("T2: within 999 less than 0: by DRAW, too", () -> {
            RoundOfTheA x = laid("d0,3,1,1;d0,3,1,0;w3;");
            hoursPass(x, 6);
            is("evening(3, 0)", x.evening(3, 0), 1);
        });
    }

    private void nothingChanges() {
        holds("P25 to 27: what would be changes nothing", () -> {
            leavesAll("high(1)", 12, HighEdges::high, x -> x.high(1));
            leavesAll("odds(5, 1)", 2, HighEdges::high, x -> x.odds(5, 1));
            leavesAll("evening(1, 0)", 3, HighEdges::high, x -> x.evening(1, 0));
        });
        holds("P25 to 27: refused, nothing changes", () -> {
            leavesAll("high(2)", BAD, Edges::lived, x -> x.high(2));
            leavesAll("odds(11, 0)", BAD, Edges::lived, x -> x.odds(11, 0));
            leavesAll("high(1)", NONE, x -> x.together(1, 400), x -> x.high(1));
            leavesAll("evening(10000, 0)", BAD, Edges::lived, x -> x.evening(10000, 0));
        });
    }

    private static void high(RoundOfTheA x) {
        writeAll(x, "d0,3,60,9;d1,3,1,8;w1;");
        x.lay();
        x.together(1, 203);
        x.keep();
        x.hear(1, 8);
    }
}
