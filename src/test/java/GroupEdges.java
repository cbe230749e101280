/** Boundary cases of promises 15 to 22, and of what they rest on (part 3). */
final class GroupEdges extends Edges {
    private GroupEdges(Due due) {
        super(due);
    }

    static void run(Due due) {
        GroupEdges edges = new GroupEdges(due);
        edges.rounds();
        edges.roundsByGroups();
        edges.halves();
        edges.halvesOfSeveral();
        edges.ways();
        edges.waysThatComeRound();
        edges.ears();
        edges.earsOfSeveral();
        edges.again();
        edges.needles();
        edges.needlesOfSeveral();
        edges.blame();
        edges.fifths();
        edges.wouldBe();
    }

    private void roundIs(RoundOfTheA x, int spread, int seconds, int... offs) {
        is("round(-1)", x.round(-1), spread);
        is("round(-2)", x.round(-2), seconds);
        for (int i = 0; i < offs.length; i++) is("round(" + i + ")", x.round(i), 1000 + offs[i]);
    }

    private void rounds() {
        holds("P15: SPREAD (-1), seconds (-2), a DESK: BAD else", () -> {
            RoundOfTheA x = new RoundOfTheA();
            for (int i : new int[] {-3, -4, 5, 7, 8, 9, 10, MIN, MAX}) is("round(" + i + ")", x.round(i), BAD);
            RoundOfTheA eight = laid(times(8, "d1,3,1,9;") + "w0;");
            is("round(7) of eight", eight.round(7), 1003);
            is("round(8) of eight", eight.round(8), BAD);
        });
        holds("P15: one DESK", () -> roundIs(laid("d1,5,7,9;w0;p0,40;"), 0, 7, 2));
        holds("P15: FIXED ones alone: no seconds", () -> roundIs(laid("d2,5,60,9;d2,5,60,9;g1,4;p0,25;"), 5, 0, 5, 0));
        holds("P15: and 1000: 999 and 999 less than 0", () -> {
            RoundOfTheA x = laid("d1,6,1,1;d1,6,1,0;d3,0,1,3;d3,0,1,2;w3;");
            hoursPass(x, 6);
            roundIs(x, 1998, 1, 999, 999, -999, -999);
        });
        holds("T3: ROUND: from now on", () -> {
            RoundOfTheA x = laid("d1,3,30,8;d1,3,30,8;d0,3,30,8;g1,1;g2,2;w1;");
            // The first full minute ends with GROUP 1, ahead of desk 2.
            roundIs(x, 1, 90, 1, 1, 0);
            x.minutes(5);
            roundIs(x, 1, 90, 1, 1, 0);
            // From 330 seconds on one ends with GROUP 0, one with GROUP 2.
            x.tune(4);
            roundIs(x, 3, 90, 2, 1, -1);
        });
    }

    private void roundsByGroups() {
        holds("T3: ROUND: all of a GROUP at once", () -> roundIs(laid("d1,3,7,9;d1,3,5,9;d1,3,3,9;w0;"), 0, 7, 1, 1, 1));
        holds("T3: ROUND: GROUP 0, then 1, .. 4", () -> {
            String one = "d1,3,1,1;d1,3,1,2;d1,3,1,3;d1,3,1,4;d1,3,1,9;w0;o18,0;";
            roundIs(laid(one + "g0,4;g1,3;g2,2;g3,1;"), 0, 5, 9, 9, 9, 9, 9);
            roundIs(laid(one + "g1,1;g2,2;g3,3;g4,4;"), 9, 5, 0, 0, 0, 0, 9);
        });
        holds("T3: ROUND: a GROUP in which nobody is", () -> {
            roundIs(laid("d1,4,9,9;g0,4;w0;"), 0, 9, 1);
            roundIs(laid("d1,4,9,9;d1,4,8,9;g0,2;g1,4;w0;"), 0, 17, 1, 1);
        });
        holds("T3: ROUND: the OBOE slips once for each GROUP that hears it", () ->
            roundIs(laid("d1,3,1,9;d1,3,1,9;d1,3,1,9;g1,2;g2,4;w0;o9,3;"), 6, 3, 0, 3, 6));
        holds("T3: ROUND: a full minute between two GROUPS", () ->
            roundIs(laid("d1,3,59,8;d1,3,1,8;d1,3,1,0;g1,1;g2,2;w3;"), 0, 61, 3, 3, 3));
    }

    private void halvesAre(RoundOfTheA x, int set, int spread, int seconds) {
        is("halves(0)", x.halves(0), set);
        is("halves(1)", x.halves(1), spread);
        is("halves(2)", x.halves(2), seconds);
    }

    private void halves() {
        holds("P16: BAD: what (0 to 2)", () -> {
            RoundOfTheA x = new RoundOfTheA();
            for (int what : new int[] {-1, 3, MIN, MAX}) is("halves(" + what + ")", x.halves(what), BAD);
        });
        holds("T3: HALVES: one DESK", () -> halvesAre(laid("d1,5,7,9;w0;"), 0, 0, 7));
        holds("T3: HALVES: FIXED ones alone", () -> halvesAre(laid("d2,5,7,9;d2,5,7,9;p1,40;"), 0, 20, 0));
        holds("T3: HALVES: nobody, then all others", () -> halvesAre(laid("d1,3,10,9;d1,3,20,0;w0;p1,40;"), 0, 0, 20));
        holds("T3: HALVES: a set, then all others", () -> halvesAre(laid("d1,3,10,9;d1,3,20,0;w0;p0,40;"), 1, 0, 30));
        holds("T3: HALVES: the highest of eight first", () ->
            halvesAre(laid(times(7, "d1,3,1,7;") + "d1,3,1,9;w0;p7,40;"), 128, 3, 2));
        holds("T3: HALVES: the hall gets warmer between them", () ->
            halvesAre(laid("d1,3,60,9;d1,3,60,0;w3;p0,40;"), 1, 0, 120));
    }

    private void halvesOfSeveral() {
        holds("T3: HALVES: SPREAD goes ahead of what is soonest done", () ->
            halvesAre(laid("d1,3,10,9;d1,3,20,0;w0;p0,21;"), 1, 0, 30));
        holds("T3: HALVES: of several the one that is soonest done", () ->
            // Three at once make NOISE against the FIXED one: sets 1, 2 (50 seconds) and 3, 4 (40) do not.
            halvesAre(laid("d1,3,30,9;d1,3,20,9;d1,3,10,9;d2,3,1,9;w0;"), 3, 0, 40));
        holds("T3: HALVES: of several the lowest set", () -> {
            halvesAre(laid("d1,3,10,8;d1,3,10,8;w0;"), 0, 0, 10);
            halvesAre(laid("d1,3,10,9;d1,3,10,9;d1,3,10,9;d2,3,1,9;w0;"), 1, 0, 20);
        });
    }

    private void wayIs(RoundOfTheA x, int i, int steps, int lean) {
        is("way(" + i + ", 0)", x.way(i, 0), steps);
        is("way(" + i + ", 1)", x.way(i, 1), lean);
    }

    private static String chain(int lean, int last) {
        StringBuilder text = new StringBuilder("d0," + lean + ",1," + last + ";");
        for (int i = 0; i < 7; i++) text.append("d0,").append(lean).append(",1,").append(i).append(';');
        return text.toString();
    }

    private void ways() {
        holds("P17: steps: 1 to the OBOE, 1 to a NEEDLE", () -> {
            wayIs(laid("d0,5,1,9;"), 0, 1, 102);
            wayIs(laid("d0,5,1,8;"), 0, 1, 100);
        });
        holds("P17: steps: 8", () -> wayIs(laid(chain(3, 9)), 7, 8, 100));
        holds("P17: what they LEAN, and 100: the most and the least", () -> {
            wayIs(laid(chain(6, 9)), 7, 8, 124);
            wayIs(laid(chain(0, 9)), 7, 8, 76);
        });
        holds("T3: WAY: what is taken from a NEEDLE leans not, what is taken from DESKS does", () -> {
            wayIs(laid(chain(6, 8)), 7, 8, 121);
            wayIs(laid(chain(0, 8)), 7, 8, 79);
        });
        holds("T3: WAY: whom it HEARS now", () -> {
            RoundOfTheA x = laid(chain(6, 9));
            x.hear(1, 8);
            wayIs(x, 7, 7, 118);
            x.hear(7, 9);
            wayIs(x, 7, 1, 103);
        });
        holds("P17: BAD: no such DESK, what (0, 1)", () -> {
            RoundOfTheA x = new RoundOfTheA();
            for (int i : new int[] {-1, 5, 7, 8, 9, MIN, MAX}) is("way(" + i + ", 0)", x.way(i, 0), BAD);
            for (int what : new int[] {-1, 2, MIN, MAX}) is("way(0, " + what + ")", x.way(0, what), BAD);
        });
    }

    private void waysThatComeRound() {
        holds("T3: WAY: none (it comes round): two", () -> {
            RoundOfTheA x = laid("d0,3,1,1;d0,3,1,0;");
            wayIs(x, 0, NONE, NONE);
            wayIs(x, 1, NONE, NONE);
        });
        holds("T3: WAY: none (it comes round): all eight", () -> {
            RoundOfTheA x = laid(chain(3, 7));
            for (int i = 0; i < 8; i++) wayIs(x, i, NONE, NONE);
        });
        holds("T3: WAY: none (it comes round): to others than where it began", () -> {
            RoundOfTheA x = laid("d0,3,1,1;d0,3,1,2;d0,3,1,1;d0,3,1,9;");
            wayIs(x, 0, NONE, NONE);
            wayIs(x, 3, 1, 100);
        });
        holds("T3: WAY: a ring that is opened", () -> {
            RoundOfTheA x = laid("d0,4,1,1;d0,4,1,0;");
            x.hear(1, 9);
            wayIs(x, 0, 2, 102);
            x.undo();
            wayIs(x, 0, NONE, NONE);
        });
        holds("P17: NONE; BAD: of several the first is BAD", () -> {
            RoundOfTheA x = laid("d0,3,1,1;d0,3,1,0;");
            is("way(0, 2)", x.way(0, 2), BAD);
            is("way(0, -1)", x.way(0, -1), BAD);
        });
    }

    private void earIs(RoundOfTheA x, int i, int whom, int off) {
        is("ear(" + i + ", 0)", x.ear(i, 0), whom);
        is("ear(" + i + ", 1)", x.ear(i, 1), off);
    }

    private void ears() {
        holds("P18: NO: it is FIXED", () -> {
            RoundOfTheA x = laid("d2,3,1,9;d1,3,1,9;d0,3,1,9;d3,3,1,9;");
            earIs(x, 0, NO, NO);
            for (int i = 1; i < 4; i++) is("ear(" + i + ", 0) is not NO", x.ear(i, 0) >= 0 ? 1 : 0, 1);
        });
        holds("P18: BAD: no such DESK, what (0, 1)", () -> {
            RoundOfTheA x = new RoundOfTheA();
            for (int i : new int[] {-1, 5, 7, 8, 9, MIN, MAX}) is("ear(" + i + ", 0)", x.ear(i, 0), BAD);
            for (int what : new int[] {-1, 2, MIN, MAX}) is("ear(0, " + what + ")", x.ear(0, what), BAD);
        });
        holds("P18: BAD; NO: of several the first", () -> {
            RoundOfTheA x = new RoundOfTheA();
            is("ear(3, 2) of a FIXED one", x.ear(3, 2), BAD);
            is("ear(3, -1) of a FIXED one", x.ear(3, -1), BAD);
        });
        holds("T3: EAR: another DESK, or the OBOE: one DESK has but the OBOE", () ->
            earIs(laid("d1,6,1,8;w0;o18,0;"), 0, 9, 12));
        holds("T3: EAR: no NEEDLE, not itself", () -> earIs(laid("d1,3,1,8;d2,3,1,9;w0;p1,25;o16,0;"), 0, 1, 5));
        holds("T3: EAR: the last of eight", () ->
            earIs(laid("d1,3,1,9;" + times(7, "d2,3,1,9;") + "p1,40;p2,40;p3,40;p4,40;p5,40;p6,40;w0;o18,0;"), 0, 7, 0));
        holds("T3: EAR: behind ROUND, not now", () ->
            earIs(laid("d1,3,1,9;d1,3,1,8;d2,3,1,9;g0,1;w0;p1,40;p2,21;o18,0;"), 0, 1, 0));
    }

    private void earsOfSeveral() {
        holds("T3: EAR: least OFF, whether above or below", () -> {
            earIs(laid("d1,3,1,9;d2,3,1,9;d2,3,1,9;w0;p1,18;p2,21;o18,0;"), 0, 2, 1);
            earIs(laid("d1,3,1,9;d2,3,1,9;d2,3,1,9;w0;p1,22;p2,19;o18,0;"), 0, 2, 1);
            earIs(laid("d1,3,1,9;d2,3,1,9;w0;p1,0;o0,0;"), 0, 9, 9);
        });
        holds("T3: EAR: of several the lowest", () -> {
            earIs(laid("d1,3,1,9;d2,3,1,9;d2,3,1,9;w0;p1,22;p2,18;o18,0;"), 0, 1, 2);
            earIs(laid("d2,3,1,9;d2,3,1,9;d1,3,1,9;w0;o18,0;"), 2, 0, 0);
        });
        holds("T3: EAR: the OBOE is 9, ahead of it any DESK", () ->
            earIs(laid("d1,3,1,9;d2,3,1,9;w0;p1,25;o4,0;"), 0, 1, 5));
    }

    private void again() {
        holds("T3: AGAIN: 0: already now", () -> is("again", laid("d2,3,1,9;d2,3,1,9;p0,24;").again(), 0));
        holds("T3: AGAIN: more than is not heard: D itself is not", () -> is("again", laid("d2,3,1,9;d2,3,1,9;p0,23;w3;").again(), NONE));
        holds("T3: AGAIN: first: each of the minutes is looked at", () -> {
            is("one degree", laid("d1,3,1,9;d2,3,1,9;h20;w1;").again(), 21);
            is("two degrees", laid("d1,3,1,9;d2,3,1,9;h20;w2;").again(), 11);
            is("three degrees", laid("d1,3,1,9;d2,3,1,9;h20;w3;").again(), 7);
        });
        holds("T3: AGAIN: first nearer, then farther", () -> is("again", laid("d0,3,1,9;d2,3,1,9;w1;h20;p0,40;").again(), 41));
        holds("T3: AGAIN: none: nothing gets warmer", () -> is("again", laid("d0,3,1,9;d1,3,1,9;w0;").again(), NONE));
        holds("T3: AGAIN: none: one DESK", () -> is("again", laid("d3,3,1,9;w3;h1;").again(), NONE));
        holds("T3: AGAIN: none: alike ones go alike", () -> is("again", laid("d3,3,1,9;d3,3,1,9;w3;h1;").again(), NONE));
        holds("T3: AGAIN: none: kept within 999 they meet", () -> {
            RoundOfTheA x = laid("d1,3,1,9;d1,3,1,9;w3;p0,23;h3;");
            hoursPass(x, 5);
            x.minutes(30);
            is("again", x.again(), NONE);
        });
        holds("T3: AGAIN: from now, behind seconds that are no full minute", () -> {
            RoundOfTheA x = laid("d1,3,59,8;d2,3,1,9;h20;w1;");
            x.tune(1);
            is("again", x.again(), 21);
            x.minutes(20);
            is("again", x.again(), 1);
        });
    }

    private void needlesAre(RoundOfTheA x, int k, int set, int spread) {
        is("needles(" + k + ", 0)", x.needles(k, 0), set);
        is("needles(" + k + ", 1)", x.needles(k, 1), spread);
    }

    private void needles() {
        holds("P20: k (0 to 3): BAD else", () -> {
            RoundOfTheA x = new RoundOfTheA();
            for (int k : new int[] {-1, 4, 5, MIN, MAX}) is("needles(" + k + ", 0)", x.needles(k, 0), BAD);
        });
        holds("P20: BAD: what (0, 1)", () -> {
            RoundOfTheA x = new RoundOfTheA();
            for (int what : new int[] {-1, 2, MIN, MAX}) is("needles(1, " + what + ")", x.needles(1, what), BAD);
        });
        holds("P20: NONE: there are not so many", () -> {
            needlesAre(laid("d1,3,1,9;d1,3,1,9;w0;"), 3, NONE, NONE);
            needlesAre(laid("d1,3,1,9;w0;"), 2, NONE, NONE);
        });
        holds("P20: NONE: FIXED ones are not counted", () -> {
            RoundOfTheA x = laid(times(6, "d2,3,1,9;") + "d1,3,1,9;d1,3,1,9;w0;");
            needlesAre(x, 2, 192, 0);
            needlesAre(x, 3, NONE, NONE);
            needlesAre(laid("d2,3,1,9;"), 1, NONE, NONE);
        });
        holds("P20: there are just so many", () -> needlesAre(laid("d1,4,1,9;d1,5,1,9;d1,6,1,9;w0;"), 3, 7, 0));
        holds("P20: NONE; BAD: of several the first is BAD", () -> {
            RoundOfTheA x = laid("d2,3,1,9;");
            is("needles(1, 2)", x.needles(1, 2), BAD);
            is("needles(3, -1)", x.needles(3, -1), BAD);
            is("needles(4, 0)", x.needles(4, 0), BAD);
        });
        holds("T3: NEEDLES for 0 DESKS: nobody, SPREAD behind ROUND as things stand", () -> {
            needlesAre(laid("d1,5,1,9;d2,3,1,9;w0;"), 0, 0, 2);
            needlesAre(laid("d2,5,1,9;d2,3,1,9;p0,25;"), 0, 0, 5);
        });
    }

    private void needlesOfSeveral() {
        holds("T3: NEEDLES: of several the lowest", () -> {
            String alike = "d2,3,1,9;d1,3,1,8;d1,3,1,8;d1,3,1,8;d1,3,1,8;w0;";
            needlesAre(laid(alike), 1, 2, 0);
            needlesAre(laid(alike), 2, 6, 0);
            needlesAre(laid(alike), 3, 14, 0);
        });
        holds("T3: NEEDLES: the highest of eight", () ->
            needlesAre(laid(times(7, "d2,3,1,9;") + "d1,6,1,9;w0;"), 1, 128, 0));
        holds("T3: NEEDLES: the lowest of eight, all others are worse", () ->
            needlesAre(laid("d1,6,1,9;d1,3,1,9;" + times(6, "d2,3,1,9;") + "w0;"), 1, 1, 0));
        holds("T3: NEEDLES: of just so many, though fewer or more were better", () -> {
            RoundOfTheA x = laid("d1,3,1,9;d1,3,1,9;w0;o18,0;");
            needlesAre(x, 0, 0, 0);
            needlesAre(x, 1, 1, 9);
            needlesAre(x, 2, 3, 0);
        });
        holds("T3: NEEDLES: who has one already is one of them", () ->
            needlesAre(laid("d1,3,1,8;d1,3,1,9;d2,3,1,9;w0;o18,0;"), 1, 2, 0));
    }

    private void blameIs(RoundOfTheA x, int desk, int spread) {
        is("blame(0)", x.blame(0), desk);
        is("blame(1)", x.blame(1), spread);
    }

    private void blame() {
        holds("P21: BAD: what (0, 1)", () -> {
            RoundOfTheA x = new RoundOfTheA();
            for (int what : new int[] {-1, 2, MIN, MAX}) is("blame(" + what + ")", x.blame(what), BAD);
        });
        holds("T3: BLAME: one DESK", () -> blameIs(laid("d1,6,1,9;w0;"), 0, 0));
        holds("T3: BLAME: the last of eight", () -> blameIs(laid(times(7, "d2,3,1,9;") + "d1,6,1,9;w0;"), 7, 0));
        holds("T3: BLAME: of several the lowest", () -> {
            blameIs(laid("d1,3,1,9;d1,3,1,9;d1,3,1,9;w0;"), 0, 0);
            blameIs(laid("d2,3,1,8;d1,5,1,9;d1,5,1,9;w0;"), 0, 2);
            blameIs(laid("d1,3,1,9;d1,6,1,9;d1,0,1,9;w0;g1,1;g2,2;"), 1, 3);
        });
        holds("T3: BLAME: LEANING by 0, not by less", () -> blameIs(laid("d1,0,1,9;d2,3,1,9;w0;"), 0, 0));
        holds("T3: BLAME: it LEANS as before behind that", () -> {
            RoundOfTheA x = laid("d1,6,1,9;w0;");
            x.blame(0);
            is("round(0)", x.round(0), 1003);
            x.tune(1);
            offsAre(x, 3);
        });
    }

    private void fifthsAre(int a, int b, int x, int sorest) {
        RoundOfTheA any = new RoundOfTheA();
        is("fifths(" + a + ", " + b + ", 0)", any.fifths(a, b, 0), x);
        is("fifths(" + a + ", " + b + ", 1)", any.fifths(a, b, 1), sorest);
    }

    private void fifths() {
        holds("P22: a strings below, b above (0 to 9 each): the ends", () -> {
            fifthsAre(0, 0, 20, 0);
            fifthsAre(9, 0, 29, 9);
            fifthsAre(0, 9, 11, 9);
            fifthsAre(9, 9, 20, 18);
        });
        holds("P22: a strings below: BAD else", () -> {
            RoundOfTheA x = new RoundOfTheA();
            for (int n : new int[] {-1, 10, MIN, MAX}) is("fifths(" + n + ", 0, 0)", x.fifths(n, 0, 0), BAD);
        });
        holds("P22: b strings above: BAD else", () -> {
            RoundOfTheA x = new RoundOfTheA();
            for (int n : new int[] {-1, 10, MIN, MAX}) is("fifths(0, " + n + ", 0)", x.fifths(0, n, 0), BAD);
        });
        holds("P22: BAD: what (0, 1)", () -> {
            RoundOfTheA x = new RoundOfTheA();
            for (int what : new int[] {-1, 2, MIN, MAX}) is("fifths(0, 0, " + what + ")", x.fifths(0, 0, what), BAD);
        });
        holds("T3: FIFTHS: each of them: half way between the outermost strings", () -> {
            for (int a = 0; a <= 9; a++) for (int b = 0; b <= 9; b++) fifthsAre(a, b, 20 + a - b, a + b);
        });
    }

    private void wouldBe() {
        holds("P15 to 22: what would be changes nothing", () -> {
            leavesAll("round(-2)", 20, GroupEdges::slow, x -> x.round(-2));
            leavesAll("halves(2)", 30, GroupEdges::slow, x -> x.halves(2));
            leavesAll("way(1, 0)", 2, GroupEdges::slow, x -> x.way(1, 0));
            leavesAll("ear(0, 0)", 9, GroupEdges::slow, x -> x.ear(0, 0));
            leavesAll("again()", 0, GroupEdges::slow, x -> x.again());
            leavesAll("needles(1, 0)", 2, GroupEdges::slow, x -> x.needles(1, 0));
            leavesAll("blame(0)", 0, GroupEdges::slow, x -> x.blame(0));
        });
        holds("P15 to 22: refused, nothing changes", () -> {
            leavesAll("round(9)", BAD, Edges::lived, x -> x.round(9));
            leavesAll("halves(3)", BAD, Edges::lived, x -> x.halves(3));
            leavesAll("way(5, 0)", BAD, Edges::lived, x -> x.way(5, 0));
            leavesAll("ear(3, 0)", NO, Edges::lived, x -> x.ear(3, 0));
            leavesAll("needles(4, 0)", BAD, Edges::lived, x -> x.needles(4, 0));
            leavesAll("blame(2)", BAD, Edges::lived, x -> x.blame(2));
            leavesAll("fifths(10, 0, 0)", BAD, Edges::lived, x -> x.fifths(10, 0, 0));
        });
        holds("P17, 19, 20: NONE: nothing changes", () -> {
            leavesAll("way(0, 1)", NONE, GroupEdges::still, x -> x.way(0, 1));
            leavesAll("again()", NONE, GroupEdges::still, x -> x.again());
            leavesAll("needles(3, 1)", NONE, GroupEdges::still, x -> x.needles(3, 1));
        });
    }

    private static void still(RoundOfTheA x) {
        writeAll(x, "d1,3,1,1;d1,3,1,0;d2,3,1,9;w0;");
        x.lay();
        x.keep();
        x.minutes(2);
        x.tune(3);
    }

    private static void slow(RoundOfTheA x) {
        writeAll(x, "d1,3,10,9;d1,3,20,0;w3;p0,40;o10,3;");
        x.lay();
        x.keep();
        x.minutes(2);
        x.hear(0, 8);
        x.hear(0, 9);
        x.keep();
    }
}
