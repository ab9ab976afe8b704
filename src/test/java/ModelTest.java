/** Long runs of calls, each answer held against that of the Model. */
final class ModelTest {
    private static final int CALLS = 512;
    /** A text told, a change and some looks: no object is called more often than the document promises. */
    private static final int LONGEST_ROUND = 110;

    private long seed;
    private int calls;
    private final String run;
    private final SwingCranes x = new SwingCranes();
    private final Model m = new Model();

    private ModelTest(String run, long seed) {
        this.run = run;
        this.seed = seed * 2654435761L + 12345;
    }

    static void runAll() {
        for (int i = 0; i < 3000; i++) {
            new ModelTest("random run " + i, i).goAtRandom(i % 3 == 0);
        }
        swingToTheMost();
        rateToTheMost();
        ticksToTheMost();
    }

    private int pick(int below) {
        seed = seed * 6364136223846793005L + 1442695040888963407L;
        return (int) ((seed >>> 33) % below);
    }

    private int from(int least, int most) {
        return least + pick(most - least + 1);
    }

    /** Mostly a number that is told, now and then one beside the edge. */
    private int near(int least, int most) {
        int p = pick(40);
        if (p == 0) return least - 1;
        if (p == 1) return most + 1;
        if (p == 2) return least;
        if (p == 3) return most;
        return from(least, most);
    }

    private void due(String call, int got, int want) {
        calls++;
        Check.due(run + ", call " + calls + ": " + call, got, want);
    }

    private void write(String text) {
        for (int i = 0; i < text.length() && calls < CALLS; i++) {
            due("write(" + text.charAt(i) + ")", x.write(text.charAt(i)), m.write(text.charAt(i)));
        }
    }

    private void command(int c, int w) {
        due("command(" + c + ", " + w + ")", x.command(c, w), m.command(c, w));
    }

    private void shape(int c, int w, int p) {
        due("shape(" + c + ", " + w + ", " + p + ")", x.shape(c, w, p), m.shape(c, w, p));
    }

    private void target(int c, int l) {
        due("target(" + c + ", " + l + ")", x.target(c, l), m.target(c, l));
    }

    private void load(int c, int l) {
        due("load(" + c + ", " + l + ")", x.load(c, l), m.load(c, l));
    }

    private void couple(int level) {
        due("couple(" + level + ")", x.couple(level), m.couple(level));
    }

    private void tick(int n) {
        due("tick(" + n + ")", x.tick(n), m.tick(n));
    }

    private void undo() {
        due("undo()", x.undo(), m.undo());
    }

    private void crane(int c, int what) {
        due("crane(" + c + ", " + what + ")", x.crane(c, what), m.crane(c, what));
    }

    private void stepOf(int c, int k, int what) {
        due("stepOf(" + c + ", " + k + ", " + what + ")", x.stepOf(c, k, what), m.stepOf(c, k, what));
    }

    private void spot(int c, int k, int what) {
        due("spot(" + c + ", " + k + ", " + what + ")", x.spot(c, k, what), m.spot(c, k, what));
    }

    private void been(int c, int b, int l) {
        due("been(" + c + ", " + b + ", " + l + ")", x.been(c, b, l), m.been(c, b, l));
    }

    private void ahead(int n, int c, int what) {
        due("ahead(" + n + ", " + c + ", " + what + ")", x.ahead(n, c, what), m.ahead(n, c, what));
    }

    private void best(int c, int w, int what) {
        due("best(" + c + ", " + w + ", " + what + ")", x.best(c, w, what), m.best(c, w, what));
    }

    private void count(int what) {
        due("count(" + what + ")", x.count(what), m.count(what));
    }

    private void lay() {
        due("fault()", x.fault(), m.fault());
        due("lay()", x.lay(), m.lay());
    }

    private String item() {
        switch (pick(4)) {
            case 0: return "e" + near(200, 999) + ";";
            case 1: return "g" + near(10, 99) + ";";
            case 2: return "k" + near(1, 9) + "," + near(1, 40) + "," + near(0, 40) + ";";
            default:
                int c = near(0, 1);
                int place = c == 0 ? near(0, 200) : near(100, 999);
                return "c" + c + "," + place + "," + near(10, 60) + "," + near(0, 99) + ";";
        }
    }

    private void tellText() {
        if (pick(3) > 0) {
            due("wipe()", x.wipe(), m.wipe());
        }
        for (int items = from(0, 5); items > 0; items--) {
            write(item());
        }
        if (pick(12) == 0) {
            int letter = from(30, 128);
            due("write(" + letter + ")", x.write(letter), m.write(letter));
        }
        lay();
    }

    private void goAtRandom(boolean isText) {
        if (isText) {
            tellText();
        }
        while (calls < CALLS - LONGEST_ROUND) {
            if (isText && pick(60) == 0) {
                tellText();
            }
            changeAtRandom();
            lookAtRandom();
        }
    }

    private void changeAtRandom() {
        switch (pick(12)) {
            case 0:
            case 1: command(near(0, 1), near(-40, 40)); break;
            case 2:
            case 3: shape(near(0, 1), near(-40, 40), near(-1, 20)); break;
            case 4: target(near(0, 1), near(10, 60)); break;
            case 5: load(near(0, 1), near(0, 99)); break;
            case 6: couple(pick(3) == 0 ? -1 : near(-1, 20)); break;
            case 7: undo(); break;
            case 8: tick(near(1, 60)); break;
            default: tick(from(1, 6)); break;
        }
    }

    private void lookAtRandom() {
        int c = near(0, 1);
        int look = from(0, 4);
        for (int i = 0; i < look; i++) {
            crane(pick(2), near(0, 12));
        }
        switch (pick(10)) {
            case 0: stepOf(c, from(-1, 2), near(0, 1)); break;
            case 1: spot(c, from(-2, 12), near(0, 2)); break;
            case 2: been(c, m.crane(pick(2), 0) / 50, m.crane(pick(2), 2) / 10); break;
            case 3: been(c, near(0, 99), near(0, 99)); break;
            case 4: ahead(near(1, 60), c, near(0, 5)); break;
            case 5: due("quiet(" + c + ")", x.quiet(c), m.quiet(c)); break;
            case 6: if (pick(4) == 0) best(c, near(-40, 40), near(0, 1)); break;
            case 7: int v = near(-40, 40); due("stop(" + v + ")", x.stop(v), m.stop(v)); break;
            case 8: int l = near(10, 60); due("half(" + l + ")", x.half(l), m.half(l)); break;
            default: count(near(0, 9)); break;
        }
    }

    /** Run to and fro so that the swing grows each time. */
    private static ModelTest pumped(String run) {
        ModelTest t = new ModelTest(run, 1);
        t.write("e999;k9,40,40;c0,450,60,0;c1,999,60,0;");
        t.lay();
        for (int i = 0; i < 38; i++) {
            t.command(0, i % 2 == 0 ? 27 : -27);
            t.tick(6);
        }
        return t;
    }

    private static void swingToTheMost() {
        ModelTest t = pumped("swing to the most");
        int most = 0;
        for (int i = 0; i < 4; i++) {
            t.command(0, i % 2 == 0 ? 27 : -27);
            for (int n = 0; n < 6; n++) {
                t.tick(1);
                t.crane(0, 4);
                t.crane(0, 5);
                most = Math.max(most, Math.abs(t.m.crane(0, 4) - Model.ZERO));
            }
        }
        Check.due("the greatest swing", most, 9999);
    }

    /** A long rope swings far, a short one fast: shortened, then driven against its rate tick by tick. */
    private static void rateToTheMost() {
        ModelTest t = pumped("rate to the most");
        t.target(0, 10);
        t.tick(50);
        int most = 0;
        while (t.calls < CALLS - 3) {
            int rate = t.m.crane(0, 5) - Model.ZERO;
            most = Math.max(most, Math.abs(rate));
            t.command(0, rate > 0 ? -40 : 40);
            t.tick(1);
            t.crane(0, 5);
            t.crane(0, 4);
        }
        Check.due("the greatest rate", most, 9999);
    }

    private static void ticksToTheMost() {
        ModelTest t = new ModelTest("ticks to the most", 1);
        for (int i = 0; i < 170; i++) {
            t.command(i % 2, 12 - i % 25);
            t.tick(60);
        }
        t.count(6);
        t.tick(39);
        t.tick(40);
        t.tick(1);
        t.ahead(60, 0, 0);
        t.undo();
        t.count(6);
        for (int k = -1; k < 20; k++) {
            t.spot(0, k, 2);
            t.spot(1, k, 0);
        }
    }
}
