import java.util.Random;

/** Runs of calls by fixed seeds, each answer compared with the model's. */
final class ModelTests {
    private static final int RUNS = 400;
    private static final int MOST_CALLS = 512;
    private static final int[] WILD = {
        Integer.MIN_VALUE, Integer.MAX_VALUE, -1000, -3, -2, -1, 10, 11, 31, 61, 99, 127, 255, 256, 257, 400, 401, 9999, 10000
    };

    private final Due due;
    private final Random random;
    private final int run;
    private final RoundOfTheA program = new RoundOfTheA();
    private final PlainModel model = new PlainModel();
    private int calls = 0;

    private ModelTests(Due due, int run) {
        this.due = due;
        this.run = run;
        this.random = new Random(run);
    }

    static void run(Due due) {
        for (int run = 0; run < RUNS; run++) new ModelTests(due, run).play();
    }

    private void play() {
        if (run % 8 != 0) layNew();
        // Some runs are mostly time, so that what is OFF comes to its ends.
        int hurry = run % 4 == 1 ? 40 : 4;
        while (calls < MOST_CALLS) {
            int kind = random.nextInt(100 + hurry);
            if (kind >= 100) same("minutes", one(60, 60));
            else if (kind < 2 && calls < 300) layNew();
            else if (kind < 3 && calls < 300) writeFaulty();
            else any();
        }
    }

    private void any() {
        switch (random.nextInt(26)) {
            case 0: same("write", one(30, 128)); same("fault"); break;
            case 1: same("fault"); break;
            case 2: case 3: same("tune", one(0, 256)); break;
            case 4: same("tune", 1 << random.nextInt(8)); break;
            case 5: same("minutes", one(1, 60)); break;
            case 6: same("hear", one(0, 8), one(0, 9)); break;
            case 7: same("undo"); break;
            case 8: same("round", one(-2, 8)); break;
            case 9: same("halves", one(0, 2)); break;
            case 10: same("way", one(0, 7), one(0, 1)); break;
            case 11: same("ear", one(0, 7), one(0, 1)); break;
            case 12: same("again"); break;
            case 13: same("needles", one(0, 3), one(0, 1)); break;
            case 14: same("blame", one(0, 1)); break;
            case 15: same("fifths", one(0, 9), one(0, 9), one(0, 1)); break;
            case 16: saySomething(); break;
            case 17: same("forget"); break;
            case 18: same("high", one(0, 1)); break;
            case 19: same("odds", one(0, 10), one(0, 1)); break;
            case 20: same("evening", one(0, 9999), one(0, 1)); break;
            case 21: same("keep"); break;
            case 22: same("back"); break;
            case 23: same("mean", one(0, 1)); same("spread"); same("heard"); break;
            case 24: same("desk", one(0, 7), one(0, 4)); same("off", one(0, 9)); break;
            default: lookAround(); break;
        }
    }

    private void lookAround() {
        for (int what = 0; what < 8; what++) same("count", what);
        for (int i = 0; i < 10; i++) same("off", i);
        for (int i = 0; i < 8; i++) same("desk", i, 3);
    }

    /** Mostly what could be so, so that somebody who is HIGH is found. */
    private void saySomething() {
        int set = one(1, 255);
        int sum = 200 + random.nextInt(7) - 3;
        for (int i = 0; i < 8; i++) {
            if ((set >> i & 1) == 1) sum += Math.max(0, model.off(i)) - 1000;
        }
        same("together", set, random.nextInt(5) == 0 ? one(0, 400) : sum);
    }

    private void layNew() {
        same("wipe");
        StringBuilder text = new StringBuilder();
        int desks = 1 + random.nextInt(8);
        for (int i = 0; i < desks; i++) {
            int whom = random.nextInt(3) == 0 ? 8 + random.nextInt(2) : random.nextInt(desks);
            text.append('d').append(random.nextInt(4)).append(',').append(random.nextInt(7)).append(',')
                .append(1 + random.nextInt(60)).append(',').append(whom == i ? 9 : whom).append(';');
        }
        for (int i = random.nextInt(8); i > 0; i--) addItem(text, desks);
        writeAll(text.toString());
        same("fault");
        same("lay");
        lookAround();
    }

    private void addItem(StringBuilder text, int desks) {
        switch (random.nextInt(6)) {
            case 0: case 1: text.append('g').append(random.nextInt(desks)).append(',').append(random.nextInt(5)); break;
            case 2: text.append('p').append(random.nextInt(desks)).append(',').append(random.nextInt(41)); break;
            case 3: text.append('o').append(random.nextInt(19)).append(',').append(random.nextInt(4)); break;
            case 4: text.append('w').append(random.nextInt(4)); break;
            default: text.append('h').append(1 + random.nextInt(20)); break;
        }
        text.append(';');
    }

    private void writeFaulty() {
        same("wipe");
        StringBuilder text = new StringBuilder("d1,3,60,9;d0,0,1,0;g1,4;p1,40;o18,3;w3;h20;");
        String signs = "0123456789,;dgpowhx -";
        for (int i = random.nextInt(3); i >= 0; i--) {
            text.setCharAt(random.nextInt(text.length()), signs.charAt(random.nextInt(signs.length())));
        }
        if (random.nextInt(3) == 0) text.setLength(random.nextInt(text.length()));
        writeAll(text.toString());
        same("fault");
        same("lay");
    }

    private void writeAll(String text) {
        for (int i = 0; i < text.length(); i++) same("write", text.charAt(i));
    }

    private int one(int least, int most) {
        if (random.nextInt(20) == 0) return WILD[random.nextInt(WILD.length)];
        return least + random.nextInt(most - least + 1);
    }

    private void same(String call, int... n) {
        // What is answered behind the last call is free.
        if (calls >= MOST_CALLS) return;
        calls++;
        StringBuilder told = new StringBuilder("seed ").append(run).append(", call ").append(calls).append(": ").append(call);
        for (int number : n) told.append(' ').append(number);
        due.is(told.toString(), ofProgram(call, n), ofModel(call, n));
    }

    private int ofProgram(String call, int[] n) {
        switch (call) {
            case "write": return program.write(n[0]);
            case "wipe": return program.wipe();
            case "fault": return program.fault();
            case "lay": return program.lay();
            case "desk": return program.desk(n[0], n[1]);
            case "off": return program.off(n[0]);
            case "tune": return program.tune(n[0]);
            case "minutes": return program.minutes(n[0]);
            case "hear": return program.hear(n[0], n[1]);
            case "undo": return program.undo();
            case "spread": return program.spread();
            case "heard": return program.heard();
            case "mean": return program.mean(n[0]);
            case "round": return program.round(n[0]);
            case "halves": return program.halves(n[0]);
            case "way": return program.way(n[0], n[1]);
            case "ear": return program.ear(n[0], n[1]);
            case "again": return program.again();
            case "needles": return program.needles(n[0], n[1]);
            case "blame": return program.blame(n[0]);
            case "fifths": return program.fifths(n[0], n[1], n[2]);
            case "together": return program.together(n[0], n[1]);
            case "forget": return program.forget();
            case "high": return program.high(n[0]);
            case "odds": return program.odds(n[0], n[1]);
            case "evening": return program.evening(n[0], n[1]);
            case "keep": return program.keep();
            case "back": return program.back();
            case "count": return program.count(n[0]);
            default: throw new IllegalArgumentException(call);
        }
    }

    private int ofModel(String call, int[] n) {
        switch (call) {
            case "write": return model.write(n[0]);
            case "wipe": return model.wipe();
            case "fault": return model.fault();
            case "lay": return model.lay();
            case "desk": return model.desk(n[0], n[1]);
            case "off": return model.off(n[0]);
            case "tune": return model.tune(n[0]);
            case "minutes": return model.minutes(n[0]);
            case "hear": return model.hear(n[0], n[1]);
            case "undo": return model.undo();
            case "spread": return model.spread();
            case "heard": return model.heard();
            case "mean": return model.mean(n[0]);
            case "round": return model.round(n[0]);
            case "halves": return model.halves(n[0]);
            case "way": return model.way(n[0], n[1]);
            case "ear": return model.ear(n[0], n[1]);
            case "again": return model.again();
            case "needles": return model.needles(n[0], n[1]);
            case "blame": return model.blame(n[0]);
            case "fifths": return model.fifths(n[0], n[1], n[2]);
            case "together": return model.together(n[0], n[1]);
            case "forget": return model.forget();
            case "high": return model.high(n[0]);
            case "odds": return model.odds(n[0], n[1]);
            case "evening": return model.evening(n[0], n[1]);
            case "keep": return model.keep();
            case "back": return model.back();
            case "count": return model.count(n[0]);
            default: throw new IllegalArgumentException(call);
        }
    }
}
