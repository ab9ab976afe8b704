/** Every test of the project; told where the source of the class and README.md are. */
public final class AllTests {
    private AllTests() {
    }

    public static void main(String[] args) {
        Check.holds("the source and README.md are told", args.length == 2);
        if (args.length == 2) {
            RulesTest.runAll(args[0]);
            ReadmeTest.runAll(args[1]);
        }
        PromiseTest.runAll();
        TextEdgeTest.runAll();
        TickEdgeTest.runAll();
        TellEdgeTest.runAll();
        RefusedTest.runAll();
        AloneTest.runAll();
        ModelTest.runAll();
        Check.tellAndEnd();
    }
}
