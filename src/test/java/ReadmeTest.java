/** The example of README.md, and its statements one by one. */
final class ReadmeTest {
    private ReadmeTest() {
    }

    static void run() {
        LookAtClock x = new LookAtClock();
        String text = "w100 10 5;k22-20 0;";
        x.row(0, 0, text.length());
        for (int i = 0; i < text.length(); i++) x.put(0, i, text.charAt(i));
        Due.is(2, "the example", x.town(0), 2);
        Due.is(10, "its first look", x.look(0, 0), 119);
        Due.is(9, "its day", x.day(0, 0), 146);
        for (String statement : new String[] {"w100 10 5;", "k22-20 0;", "l1;", "p60;"}) {
            Due.is(2, statement, Towns.read(new LookAtClock(), statement), 1);
        }
    }
}
