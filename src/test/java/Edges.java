import java.util.function.Consumer;
import java.util.function.ToIntFunction;

/** What the tests of boundary cases share: each sentence of the document is a test of its own. */
abstract class Edges {
    static final int BAD = -1, NO = -2, FULL = -3, NONE = -4;
    static final int MIN = Integer.MIN_VALUE, MAX = Integer.MAX_VALUE;

    private final Due due;
    private String sentence = "";

    Edges(Due due) {
        this.due = due;
    }

    /** One sentence with its test; what the program throws is a fault of that sentence. */
    void holds(String itsSentence, Runnable test) {
        sentence = itsSentence;
        int checksBefore = due.checks();
        try {
            test.run();
        } catch (RuntimeException | StackOverflowError thrown) {
            is("threw " + thrown, 1, 0);
        }
        // A test without a check would hold whatever the program answers.
        if (due.checks() == checksBefore) is("checks made", 0, 1);
    }

    void is(String what, long got, long want) {
        due.is("[" + sentence + "] " + what, got, want);
    }

    static void writeAll(RoundOfTheA x, String text) {
        for (int i = 0; i < text.length(); i++) x.write(text.charAt(i));
    }

    static RoundOfTheA written(String text) {
        RoundOfTheA x = new RoundOfTheA();
        writeAll(x, text);
        return x;
    }

    RoundOfTheA laid(String text) {
        RoundOfTheA x = written(text);
        is("all of '" + text + "' is written", x.count(6), text.length());
        int desks = text.split("d", -1).length - 1;
        is("lay of '" + text + "'", x.lay(), desks);
        return x;
    }

    /** By how many HAIRS the first desks are OFF, without the 1000. */
    void offsAre(RoundOfTheA x, int... want) {
        for (int i = 0; i < want.length; i++) is("desk " + i + " is OFF by", x.off(i) - 1000, want[i]);
    }

    void oboeIs(RoundOfTheA x, int want) {
        is("the OBOE is OFF by", x.off(9) - 1000, want);
    }

    static void hoursPass(RoundOfTheA x, int hours) {
        for (int i = 0; i < hours; i++) x.minutes(60);
    }

    static String times(int n, String item) {
        return item.repeat(n);
    }

    /** The call answers so, and then the object is as one that was never asked. */
    void leavesAll(String call, int want, Consumer<RoundOfTheA> before, ToIntFunction<RoundOfTheA> asking) {
        RoundOfTheA asked = new RoundOfTheA();
        RoundOfTheA spared = new RoundOfTheA();
        before.accept(asked);
        before.accept(spared);
        is(call, asking.applyAsInt(asked), want);
        alike("behind " + call, asked, spared);
    }

    /** Compares all that two objects tell, what is UNDONE and KEPT in them, too. */
    void alike(String when, RoundOfTheA a, RoundOfTheA b) {
        for (int what = 0; what < 8; what++) is(when + ", count(" + what + ")", a.count(what), b.count(what));
        for (int i = 0; i < 8; i++) {
            for (int what = 0; what < 5; what++) is(when + ", desk(" + i + ", " + what + ")", a.desk(i, what), b.desk(i, what));
        }
        is(when + ", fault", a.fault(), b.fault());
        is(when + ", high(0)", a.high(0), b.high(0));
        is(when + ", high(1)", a.high(1), b.high(1));
        alikeNow(when, a, b);
        for (int i = a.count(4); i >= 0; i--) {
            is(when + ", undo", a.undo(), b.undo());
            alikeNow(when + ", undone", a, b);
        }
        for (int i = a.count(5); i >= 0; i--) {
            is(when + ", back", a.back(), b.back());
            alikeNow(when + ", back", a, b);
        }
        is(when + ", wipe", a.wipe(), b.wipe());
    }

    private void alikeNow(String when, RoundOfTheA a, RoundOfTheA b) {
        for (int i = 0; i < 10; i++) is(when + ", off(" + i + ")", a.off(i), b.off(i));
        for (int i = 0; i < 8; i++) is(when + ", desk(" + i + ", 3)", a.desk(i, 3), b.desk(i, 3));
        is(when + ", SECONDS", a.count(1), b.count(1));
    }

    /** An object in the midst of its life: all that a refused call could spoil is there. */
    static void lived(RoundOfTheA x) {
        writeAll(x, "d0,3,1,9;w4;");
        x.keep();
        x.tune(7);
        x.minutes(3);
        x.hear(1, 8);
        x.together(3, 205);
        x.keep();
        x.tune(21);
    }
}
