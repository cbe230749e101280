/** The examples of README.md, so that what it shows stays so. */
final class ReadmeTests {
    static void run(Due due) {
        RoundOfTheA a = new RoundOfTheA();
        due.is("README: spread", a.spread(), 5);
        due.is("README: tune(13)", a.tune(13), 10);
        due.is("README: off(0)", a.off(0), 1001);
        due.is("README: undo", a.undo(), 0);
        anotherHall(due);
    }

    private static void anotherHall(Due due) {
        RoundOfTheA b = new RoundOfTheA();
        String text = "d0,4,30,9;d1,3,30,0;o10,1;w2;";
        for (int i = 0; i < text.length(); i++) b.write(text.charAt(i));
        due.is("README: fault", b.fault(), -4);
        due.is("README: lay", b.lay(), 2);
        due.is("README: round(-1)", b.round(-1), 2);
        due.is("README: tune(1)", b.tune(1), 30);
        due.is("README: tune(2)", b.tune(2), 30);
        due.is("README: off(1)", b.off(1), 1004);
        due.is("README: heard", b.heard(), 1);
    }
}
