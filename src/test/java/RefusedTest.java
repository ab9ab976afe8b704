import java.util.function.Supplier;
import java.util.function.ToIntFunction;

/** Each call that is refused, at every edge of every number that it takes; nothing has changed behind it. */
final class RefusedTest {
    private static final int BAD = -1, NO = -2, FULL = -3, NONE = -4;
    private static final int[] NO_CRANES = {Integer.MIN_VALUE, -2, -1, 2, 3, 256, Integer.MAX_VALUE};

    private RefusedTest() {
    }

    static void runAll() {
        badCranes();
        badNumbers();
        badWhats();
        refusedAsThingsStand();
        refusedOfAFullText();
        badComesFirst();
        answersChangeNothing();
    }

    /** Coupled, running, one step to come, four changes to go back to, and letters behind the text that make it faulty. */
    private static SwingCranes busy() {
        SwingCranes x = Check.laid("e700;g50;k3,13,7;c0,140,19,5;c1,480,24,31;");
        Check.writeAll(x, "e6");
        x.couple(6);
        x.shape(0, 9, 5);
        x.target(0, 28);
        x.load(1, 40);
        x.tick(2);
        return x;
    }

    private static SwingCranes busyWithPlacesNotSo() {
        SwingCranes x = busy();
        x.wipe();
        Check.writeAll(x, "k9,40,40;e300;");
        return x;
    }

    private static SwingCranes late() {
        SwingCranes x = new SwingCranes();
        for (int i = 0; i < 166; i++) {
            x.tick(60);
        }
        x.command(0, 3);
        x.tick(38);
        return x;
    }

    private static SwingCranes full() {
        SwingCranes x = new SwingCranes();
        x.command(0, 5);
        for (int i = 0; i < 199; i++) {
            x.write(' ');
        }
        x.write(';');
        return x;
    }

    /** Told to two objects alike, one of which is asked what it must refuse: both stay alike, and all the way back. */
    private static void changesNothing(String call, Supplier<SwingCranes> story, ToIntFunction<SwingCranes> asked, int due) {
        SwingCranes x = story.get();
        SwingCranes twin = story.get();
        Check.due("refused: " + call, asked.applyAsInt(x), due);
        int more = twin.count(7);
        Looks.alike("behind " + call, Looks.at(x), Looks.at(twin));
        while (more > 0) {
            more--;
            Check.due("behind " + call + ", undone", x.undo(), more);
            twin.undo();
            Looks.alike("behind " + call + " with " + more + " more to undo", Looks.at(x), Looks.at(twin));
        }
        Check.due("behind " + call + ", undone no more", x.undo(), NO);
        Check.due("behind " + call + ", laid", x.lay(), twin.lay());
        Check.due("behind " + call + ", wiped", x.wipe(), twin.wipe());
    }

    private static void bad(String call, ToIntFunction<SwingCranes> asked) {
        changesNothing(call, RefusedTest::busy, asked, BAD);
    }

    private static void badCranes() {
        for (int c : NO_CRANES) {
            bad("command of " + c, x -> x.command(c, 5));
            bad("shape of " + c, x -> x.shape(c, 5, 3));
            bad("target of " + c, x -> x.target(c, 20));
            bad("load of " + c, x -> x.load(c, 20));
            bad("crane of " + c, x -> x.crane(c, 0));
            bad("stepOf of " + c, x -> x.stepOf(c, 0, 0));
            bad("spot of " + c, x -> x.spot(c, 0, 0));
            bad("been of " + c, x -> x.been(c, 2, 3));
            bad("ahead of " + c, x -> x.ahead(1, c, 0));
            bad("quiet of " + c, x -> x.quiet(c));
            bad("best of " + c, x -> x.best(c, 5, 0));
        }
    }

    private static int[] beyond(int least, int most) {
        return new int[] {Integer.MIN_VALUE, least - 2, least - 1, most + 1, most + 2, Integer.MAX_VALUE};
    }

    private static void badNumbers() {
        for (int n : beyond(32, 126)) {
            bad("write(" + n + ")", x -> x.write(n));
        }
        for (int n : new int[] {0, 10, 31, 127, 128, 256 + 'e', 65536 + 'e', -'e'}) {
            bad("write(" + n + ")", x -> x.write(n));
        }
        for (int n : beyond(-40, 40)) {
            bad("command of speed " + n, x -> x.command(0, n));
            bad("shape of speed " + n, x -> x.shape(1, n, 3));
            bad("best of speed " + n, x -> x.best(0, n, 0));
            bad("stop of " + n, x -> x.stop(n));
        }
        for (int n : beyond(-1, 20)) {
            bad("shape with pause " + n, x -> x.shape(0, 5, n));
            bad("couple with level " + n, x -> x.couple(n));
        }
        for (int n : beyond(10, 60)) {
            bad("target " + n, x -> x.target(1, n));
            bad("half of " + n, x -> x.half(n));
        }
        for (int n : beyond(0, 99)) {
            bad("load of " + n, x -> x.load(0, n));
            bad("been in block " + n, x -> x.been(0, n, 1));
            bad("been with floor " + n, x -> x.been(0, 2, n));
        }
        for (int n : beyond(1, 60)) {
            bad("tick of " + n, x -> x.tick(n));
            bad("ahead of " + n + " ticks", x -> x.ahead(n, 0, 0));
        }
    }

    private static void badWhats() {
        for (int what : beyond(0, 12)) {
            bad("crane " + what, x -> x.crane(1, what));
        }
        for (int what : beyond(0, 1)) {
            bad("stepOf " + what, x -> x.stepOf(0, 0, what));
            bad("best " + what, x -> x.best(0, 5, what));
        }
        for (int what : beyond(0, 2)) {
            bad("spot " + what, x -> x.spot(0, 0, what));
            bad("how many spots " + what, x -> x.spot(0, -1, what));
        }
        for (int what : beyond(0, 5)) {
            bad("ahead " + what, x -> x.ahead(3, 1, what));
        }
        for (int what : beyond(0, 9)) {
            bad("count " + what, x -> x.count(what));
        }
        for (int k : new int[] {-1, -2, Integer.MIN_VALUE}) {
            bad("step " + k, x -> x.stepOf(0, k, 0));
        }
        for (int k : new int[] {-2, -3, Integer.MIN_VALUE}) {
            bad("spot at " + k, x -> x.spot(1, k, 0));
        }
    }

    private static void refusedAsThingsStand() {
        changesNothing("lay of a fault", RefusedTest::busy, x -> x.lay(), NO);
        changesNothing("lay of places that are not so", RefusedTest::busyWithPlacesNotSo, x -> x.lay(), NO);
        changesNothing("target that is so", RefusedTest::busy, x -> x.target(0, 28), NO);
        changesNothing("target that is so, of the other", RefusedTest::busy, x -> x.target(1, 28), NO);
        changesNothing("load that is so", RefusedTest::busy, x -> x.load(1, 40), NO);
        changesNothing("load that is so at first", RefusedTest::busy, x -> x.load(0, 5), NO);
        changesNothing("level that is so", RefusedTest::busy, x -> x.couple(6), NO);
        changesNothing("not coupled that is so", SwingCranes::new, x -> x.couple(-1), NO);
        changesNothing("target that is so on a new one", SwingCranes::new, x -> x.target(1, 30), NO);
        changesNothing("load that is so on a new one", SwingCranes::new, x -> x.load(0, 0), NO);
        changesNothing("undo of nothing", SwingCranes::new, x -> x.undo(), NO);
        lateOnes();
        changesNothing("fault of none", SwingCranes::new, x -> x.fault(), NONE);
        changesNothing("a step behind the last", RefusedTest::busy, x -> x.stepOf(0, 1, 0), NONE);
        changesNothing("a spot behind the last", RefusedTest::busy, x -> x.spot(0, x.spot(0, -1, 0), 0), NONE);
        changesNothing("quiet that doesn't come", RefusedTest::swinging, x -> x.quiet(0), NONE);
    }

    private static SwingCranes swinging() {
        SwingCranes x = new SwingCranes();
        x.command(0, 12);
        x.tick(9);
        return x;
    }

    /** Compared but once, since the way there takes a third of what an object may be called. */
    private static void lateOnes() {
        for (int n : new int[] {2, 3, 59, 60}) {
            SwingCranes x = late();
            SwingCranes twin = late();
            Check.due("refused: late tick of " + n, x.tick(n), NO);
            Looks.alike("behind late tick of " + n, Looks.at(x), Looks.at(twin));
            Check.due("undone behind late tick of " + n, x.undo(), 3);
            twin.undo();
            Looks.alike("undone behind late tick of " + n, Looks.at(x), Looks.at(twin));
        }
    }

    private static void refusedOfAFullText() {
        changesNothing("a letter too many", RefusedTest::full, x -> x.write('e'), FULL);
        changesNothing("a letter too many, 32", RefusedTest::full, x -> x.write(32), FULL);
        changesNothing("a letter too many, 126", RefusedTest::full, x -> x.write(126), FULL);
        changesNothing("a letter too many that is none", RefusedTest::full, x -> x.write(127), BAD);
        changesNothing("a letter too many that is none below", RefusedTest::full, x -> x.write(31), BAD);
    }

    private static void comesFirst(String call, SwingCranes x, int got) {
        Check.due("BAD first: " + call, got, BAD);
        Check.due("BAD first: no change by " + call, x.count(7), 0);
    }

    private static void badComesFirst() {
        SwingCranes x = new SwingCranes();
        comesFirst("target so, no crane", x, x.target(2, 30));
        comesFirst("target so, no crane below", x, x.target(-1, 30));
        comesFirst("load so, no crane", x, x.load(2, 0));
        comesFirst("couple(-2) though not coupled", x, x.couple(-2));
        comesFirst("no step, no crane", x, x.stepOf(2, 0, 0));
        comesFirst("no step, no what", x, x.stepOf(0, 0, 2));
        comesFirst("no step, no k", x, x.stepOf(0, -1, 0));
        comesFirst("no spot, no crane", x, x.spot(2, 0, 0));
        comesFirst("no spot, no what", x, x.spot(0, 0, 3));
        comesFirst("no spot, no k", x, x.spot(0, -2, 0));
        SwingCranes y = late();
        Check.due("BAD first: 61 late ticks", y.tick(61), BAD);
        Check.due("BAD first: 0 late ticks", y.tick(0), BAD);
        Check.due("one late tick", y.tick(1), 0);
        Check.due("BAD first: 61 ticks at the very end", y.tick(61), BAD);
        Check.due("BAD first: 0 ticks at the very end", y.tick(0), BAD);
        Check.due("NO ticks at the very end", y.tick(1), NO);
    }

    /** What only looks or tries changes nothing, answered or not. */
    private static void answersChangeNothing() {
        for (int n : new int[] {1, 2, 59, 60}) {
            for (int what = 0; what <= 5; what++) {
                int w = what;
                int want = busy().ahead(n, 1, what);
                changesNothing("ahead " + n + " of what " + what, RefusedTest::busy, x -> x.ahead(n, 1, w), want);
            }
        }
        for (int c = 0; c < 2; c++) {
            int crane = c;
            changesNothing("quiet of " + c, RefusedTest::busy, x -> x.quiet(crane), busy().quiet(c));
            changesNothing("best of " + c, RefusedTest::busy, x -> x.best(crane, -40, 0), busy().best(c, -40, 0));
            changesNothing("best swing of " + c, RefusedTest::busy, x -> x.best(crane, 40, 1), busy().best(c, 40, 1));
            changesNothing("been of " + c, RefusedTest::busy, x -> x.been(crane, 99, 99), 0);
        }
        changesNothing("stop", RefusedTest::busy, x -> x.stop(-40), 287);
        changesNothing("half", RefusedTest::busy, x -> x.half(60), 7);
    }
}
