/** The example of README.md answers what README.md says. */
public final class ReadmeTest {

    private static boolean failed = false;

    public static void main(String[] args) {
        FifthBeats piano = new FifthBeats();
        due("spread(11)", piano.spread(11), 24);
        due("setDrift(4, -2)", piano.setDrift(4, -2), 0);
        due("pass(3)", piano.pass(3), 6);
        due("fifth(4, 3)", piano.fifth(4, 3), 228);
        due("next()", piano.next(), 4);
        due("tune(4)", piano.tune(4), 6);
        if (failed) {
            System.exit(1);
        }
        System.out.println("the example of README.md is as due");
    }

    private static void due(String call, int answer, int due) {
        if (answer != due) {
            System.out.println(call + " answered " + answer + ", due is " + due);
            failed = true;
        }
    }
}
