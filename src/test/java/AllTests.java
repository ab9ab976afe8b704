/** Every test of the project; told where the source of the class is. */
public final class AllTests {
    private AllTests() {
    }

    public static void main(String[] args) {
        Check.holds("the source is told", args.length == 1);
        if (args.length == 1) {
            RulesTest.runAll(args[0]);
        }
        PromiseTest.runAll();
        TextEdgeTest.runAll();
        TickEdgeTest.runAll();
        TellEdgeTest.runAll();
        RefusedTest.runAll();
        ModelTest.runAll();
        Check.tellAndEnd();
    }
}
