import java.util.function.Supplier;

/** COMMANDS, STEPS, PAUSES, COUPLED, UNDONE, AHEAD, QUIET and BEST PAUSE at each boundary that the document names. */
final class TellEdgeTest {
    private static final int BAD = -1, NO = -2, NONE = -4, ZERO = 100000;
    private static final String[] SORTS = {"a command", "shaped", "a target", "a load", "coupled", "60 ticks"};

    private TellEdgeTest() {
    }

    static void runAll() {
        stepsOfCommands();
        halvesOfShapes();
        aStepOfZeroIsNone();
        pauses();
        pauseOfItsRope();
        stepsByTheirNumber();
        stepsThatAreGone();
        coupledAtEachLevel();
        coupledTargets();
        undoneUpToFour();
        eachSortIsUndone();
        undoneOneBehindTheOther();
        commandsOfNoStepAreChanges();
        undoneBehindLaid();
        aheadIsAsTicks();
        aheadOfBraked();
        quietInItsTicks();
        quietOfCoupled();
        bestOfAllPauses();
        bestFromTheFirstToTheLastTick();
        bestOfCoupled();
    }

    private static void due(String what, int got, int want) {
        Check.due("tell edge: " + what, got, want);
    }

    /** Each step as in how many ticks and by how much. */
    private static void stepsAre(String when, SwingCranes x, int c, int... inAndBy) {
        int many = inAndBy.length / 2;
        due(when + ": steps", x.crane(c, 9), many);
        for (int k = 0; k < many; k++) {
            due(when + ": in, " + k, x.stepOf(c, k, 0), inAndBy[2 * k]);
            due(when + ": by, " + k, x.stepOf(c, k, 1), ZERO + inAndBy[2 * k + 1]);
        }
        for (int what = 0; what < 2; what++) {
            due(when + ": one behind, " + what, x.stepOf(c, many, what), NONE);
            due(when + ": two behind, " + what, x.stepOf(c, many + 1, what), NONE);
            due(when + ": far behind, " + what, x.stepOf(c, Integer.MAX_VALUE, what), NONE);
            due(when + ": -1, " + what, x.stepOf(c, -1, what), BAD);
            due(when + ": -2, " + what, x.stepOf(c, -2, what), BAD);
        }
    }

    private static void stepsOfCommands() {
        SwingCranes x = new SwingCranes();
        due("most", x.command(0, 40), 1);
        stepsAre("most", x, 0, 1, 40);
        x.tick(1);
        due("want of the most", x.crane(0, 6), ZERO + 40);
        stepsAre("gone by", x, 0);
        due("least", x.command(0, -40), 1);
        stepsAre("from most to least", x, 0, 1, -80);
        x.tick(1);
        due("want of the least", x.crane(0, 6), ZERO - 40);
        x.command(0, 40);
        stepsAre("from least to most", x, 0, 1, 80);
        x.command(0, -39);
        stepsAre("1 more", x, 0, 1, 1);
        x.tick(1);
        x.command(0, -40);
        stepsAre("1 less", x, 0, 1, -1);
        stepsAre("none of the other", x, 1);
    }

    private static void halvesAre(int want, int w, int first, int rest) {
        SwingCranes x = new SwingCranes();
        x.command(1, want);
        x.tick(1);
        due("shape from " + want + " to " + w, x.shape(1, w, 9), 1);
        String when = "halves from " + want + " to " + w;
        if (first == 0) {
            stepsAre(when, x, 1, 10, rest);
        } else {
            stepsAre(when, x, 1, 1, first, 10, rest);
        }
        x.tick(1);
        due(when + ": want in 1", x.crane(1, 6), ZERO + want + first);
        x.tick(8);
        due(when + ": want in 9", x.crane(1, 6), ZERO + want + first);
        stepsAre(when + " in 9", x, 1, 1, rest);
        x.tick(1);
        due(when + ": want in 10", x.crane(1, 6), ZERO + w);
        stepsAre(when + " in 10", x, 1);
    }

    private static void halvesOfShapes() {
        halvesAre(0, 1, 0, 1);
        halvesAre(0, -1, 0, -1);
        halvesAre(0, 2, 1, 1);
        halvesAre(0, -2, -1, -1);
        halvesAre(0, 3, 1, 2);
        halvesAre(0, -3, -1, -2);
        halvesAre(0, 40, 20, 20);
        halvesAre(0, -40, -20, -20);
        halvesAre(-40, 40, 40, 40);
        halvesAre(40, -40, -40, -40);
        halvesAre(-40, 39, 39, 40);
        halvesAre(40, -39, -39, -40);
        halvesAre(7, 4, -1, -2);
        halvesAre(-7, -4, 1, 2);
        halvesAre(7, 6, 0, -1);
        halvesAre(3, -4, -3, -4);
    }

    private static void aStepOfZeroIsNone() {
        for (int want = -1; want <= 1; want++) {
            SwingCranes x = new SwingCranes();
            x.command(0, want);
            x.tick(1);
            String when = "want " + want + " wanted again";
            due(when + ": command", x.command(0, want), 1);
            stepsAre(when + " by command", x, 0);
            for (int pause : new int[] {-1, 0, 1, 20}) {
                due(when + ": shape", x.shape(0, want, pause), 1);
                stepsAre(when + " by shape, pause " + pause, x, 0);
            }
            due(when + ": want", x.crane(0, 6), ZERO + want);
        }
        SwingCranes y = new SwingCranes();
        y.shape(0, 1, 0);
        stepsAre("half of 1 with no pause", y, 0, 1, 1);
        y.shape(0, 1, 20);
        stepsAre("half of 1 with all the pause", y, 0, 21, 1);
        y.tick(20);
        due("not yet", y.crane(0, 6), ZERO);
        stepsAre("the next", y, 0, 1, 1);
        y.tick(1);
        due("then", y.crane(0, 6), ZERO + 1);
    }

    private static void pauses() {
        for (int pause = 0; pause <= 20; pause++) {
            SwingCranes x = new SwingCranes();
            due("pause " + pause, x.shape(0, 7, pause), 1);
            stepsAre("pause " + pause, x, 0, 1, 3, 1 + pause, 4);
            x.tick(1);
            due("want of pause " + pause, x.crane(0, 6), ZERO + (pause == 0 ? 7 : 3));
            if (pause > 0) {
                stepsAre("pause " + pause + ", the rest", x, 0, pause, 4);
                x.tick(pause);
            }
            stepsAre("pause " + pause + ", all gone", x, 0);
            due("want behind pause " + pause, x.crane(0, 6), ZERO + 7);
        }
        SwingCranes y = new SwingCranes();
        due("pause -2", y.shape(0, 7, -2), BAD);
        due("pause 21", y.shape(0, 7, 21), BAD);
        stepsAre("no steps by them", y, 0);
    }

    private static void pauseOfItsRope() {
        int[][] halves = {{10, 3}, {14, 3}, {15, 4}, {25, 4}, {26, 5}, {40, 5}, {41, 6}, {57, 6}, {58, 7}, {60, 7}};
        for (int[] a : halves) {
            SwingCranes x = Check.laid("c1,500," + a[0] + ",0;");
            x.shape(1, 2, -1);
            stepsAre("half a swing of rope " + a[0], x, 1, 1, 1, 1 + a[1], 1);
            due("as crane tells it, rope " + a[0], x.crane(1, 11), a[1]);
        }
        for (int c = 0; c < 2; c++) {
            SwingCranes both = Check.laid("c0,100,40,0;c1,500,41,0;");
            both.couple(c);
            due("both of " + c, both.shape(c, 2, -1), 2);
            stepsAre("0 by its own rope, told to " + c, both, 0, 1, 1, 6, 1);
            stepsAre("1 by its own rope, told to " + c, both, 1, 1, 1, 7, 1);
        }
        SwingCranes x = Check.laid("c0,100,40,0;");
        x.target(0, 60);
        x.shape(0, 2, -1);
        stepsAre("the target doesn't matter", x, 0, 1, 1, 6, 1);
        x.tick(1);
        due("the rope is longer now", x.crane(0, 2), 41);
        stepsAre("the pause told is as it was", x, 0, 5, 1);
        x.shape(0, 3, -1);
        stepsAre("by the rope as it is now", x, 0, 1, 1, 7, 1);
    }

    private static void stepsByTheirNumber() {
        SwingCranes x = new SwingCranes();
        stepsAre("no step", x, 0);
        x.command(0, 3);
        stepsAre("one step", x, 0, 1, 3);
        x.shape(0, -3, 4);
        stepsAre("two steps", x, 0, 1, -1, 5, -2);
        x.tick(1);
        stepsAre("the second is the first", x, 0, 4, -2);
        x.tick(3);
        stepsAre("the next", x, 0, 1, -2);
        x.tick(1);
        stepsAre("none again", x, 0);
    }

    private static void stepsThatAreGone() {
        SwingCranes x = new SwingCranes();
        x.shape(0, 10, 5);
        x.shape(1, 8, 5);
        x.command(0, 3);
        stepsAre("a command ahead of both halves", x, 0, 1, 3);
        stepsAre("not those of the other", x, 1, 1, 4, 6, 4);
        x.shape(0, 10, 5);
        x.tick(2);
        x.command(0, 4);
        stepsAre("a command between the halves", x, 0, 1, -1);
        x.undo();
        stepsAre("undone", x, 0, 4, 5);
        x.shape(0, 8, 2);
        stepsAre("a shape between the halves", x, 0, 1, 1, 3, 2);
        x.undo();
        x.command(0, 5);
        stepsAre("a command of no step between the halves", x, 0);
        x.tick(9);
        due("the rest doesn't come", x.crane(0, 6), ZERO + 5);
    }

    private static void coupledAtEachLevel() {
        SwingCranes x = new SwingCranes();
        due("not coupled", x.command(0, 1), 1);
        due("not coupled: shape", x.shape(1, 1, 0), 1);
        due("level at first", x.count(5), NONE);
        int was = NONE;
        for (int level = 0; level <= 20; level++) {
            due("couple(" + level + ")", x.couple(level), was);
            due("level " + level + " told again", x.couple(level), NO);
            due("level " + level, x.count(5), level);
            due("heeded by both at level " + level, x.command(level % 2, 5), 2);
            due("shaped both at level " + level, x.shape(level % 2, 9, 3), 2);
            stepsAre("0 at level " + level, x, 0, 1, 4, 4, 5);
            was = level;
        }
        due("21 is none", x.couple(21), BAD);
        due("-2 is none", x.couple(-2), BAD);
        due("20 still", x.count(5), 20);
        due("not any more", x.couple(-1), 20);
        due("nor again", x.couple(-1), NO);
        due("one alone", x.command(1, 0), 1);
        SwingCranes y = new SwingCranes();
        y.couple(0);
        y.command(1, 6);
        stepsAre("0 by a command of 1", y, 0, 1, 6);
        stepsAre("1 by a command of 1", y, 1, 1, 6);
        y.couple(-1);
        stepsAre("steps stay when not coupled any more", y, 0, 1, 6);
        y.command(0, 2);
        y.tick(1);
        y.couple(7);
        y.command(0, 5);
        stepsAre("0 by its own WANT", y, 0, 1, 3);
        stepsAre("1 by its own WANT", y, 1, 1, -1);
        y.shape(1, -4, 2);
        stepsAre("halves of 0 by its own WANT", y, 0, 1, -3, 3, -3);
        stepsAre("halves of 1 by its own WANT", y, 1, 1, -5, 3, -5);
    }

    private static void targetsAre(String when, SwingCranes x, int first, int second) {
        due(when + ": target of 0", x.crane(0, 7), first);
        due(when + ": target of 1", x.crane(1, 7), second);
    }

    private static void coupledTargets() {
        SwingCranes x = Check.laid("c0,100,25,0;c1,500,35,0;");
        targetsAre("its own rope", x, 25, 35);
        due("so at first", x.target(0, 25), NO);
        due("so at first, the other", x.target(1, 35), NO);
        due("least", x.target(0, 10), 25);
        due("most", x.target(1, 60), 35);
        targetsAre("one each", x, 10, 60);
        x.couple(0);
        targetsAre("coupled they stay", x, 10, 60);
        due("what that one's was", x.target(1, 10), 60);
        targetsAre("both the least", x, 10, 10);
        due("so of both", x.target(0, 10), NO);
        due("so of both, by the other", x.target(1, 10), NO);
        due("both the most", x.target(0, 60), 10);
        targetsAre("both the most", x, 60, 60);
        x.couple(-1);
        x.target(0, 30);
        x.couple(20);
        due("so of this one alone", x.target(0, 30), 30);
        targetsAre("the other heeds it", x, 30, 30);
        x.couple(-1);
        x.target(1, 31);
        x.couple(20);
        due("so of the other alone", x.target(0, 31), 30);
        targetsAre("this one heeds it", x, 31, 31);
        due("load of one alone", x.load(0, 99), 0);
        due("not of the other", x.crane(1, 3), 0);
    }

    private static void undoneUpToFour() {
        for (int changes = 0; changes <= 6; changes++) {
            SwingCranes x = new SwingCranes();
            for (int i = 1; i <= changes; i++) {
                due("change " + i, x.load(0, i), i - 1);
                due("can be undone behind change " + i, x.count(7), Math.min(i, 4));
            }
            int more = Math.min(changes, 4);
            for (int i = changes - 1; more > 0; i--) {
                more--;
                due("undone, of " + changes, x.undo(), more);
                due("as ahead of it, of " + changes, x.crane(0, 3), i);
                due("can be undone, of " + changes, x.count(7), more);
            }
            due("no more, of " + changes, x.undo(), NO);
            due("nor again, of " + changes, x.undo(), NO);
            due("it stays, of " + changes, x.crane(0, 3), Math.max(changes - 4, 0));
            due("a change behind, of " + changes, x.load(0, 50), Math.max(changes - 4, 0));
            due("that alone can be undone, of " + changes, x.undo(), 0);
        }
        SwingCranes y = new SwingCranes();
        for (int i = 1; i <= 5; i++) {
            y.load(1, i);
        }
        y.undo();
        y.undo();
        y.load(1, 77);
        y.load(1, 78);
        y.load(1, 79);
        due("four again", y.count(7), 4);
        int[] were = {78, 77, 3, 2};
        for (int i = 0; i < were.length; i++) {
            due("behind undone ones", y.undo(), 3 - i);
            due("load behind undone ones", y.crane(1, 3), were[i]);
        }
        due("not five", y.undo(), NO);
    }

    private static void change(SwingCranes x, int sort) {
        switch (sort) {
            case 0: x.command(0, 9); break;
            case 1: x.shape(0, 9, 20); break;
            case 2: x.target(0, 60); break;
            case 3: x.load(0, 99); break;
            case 4: x.couple(0); break;
            default: x.tick(60); break;
        }
    }

    /** Each sort behind an undone one of each sort: nothing is left of that. */
    private static void undoneOneBehindTheOther() {
        int[] fresh = Looks.at(new SwingCranes());
        for (int first = 0; first < SORTS.length; first++) {
            for (int second = 0; second < SORTS.length; second++) {
                String when = SORTS[second] + " behind " + SORTS[first] + " undone";
                SwingCranes x = new SwingCranes();
                change(x, first);
                x.undo();
                change(x, second);
                SwingCranes twin = new SwingCranes();
                change(twin, second);
                Looks.alike(when, Looks.at(x), Looks.at(twin));
                due(when + ": undone", x.undo(), 0);
                Looks.alike(when + ", undone", Looks.at(x), fresh);
                due(when + ": no more", x.undo(), NO);
            }
        }
    }

    private static void commandsOfNoStepAreChanges() {
        SwingCranes x = new SwingCranes();
        x.command(0, 0);
        due("a command of no step", x.count(7), 1);
        x.shape(1, 0, 5);
        due("shaped by no step", x.count(7), 2);
        due("undone of no step", x.undo(), 1);
        due("undone of no step, too", x.undo(), 0);
        due("no more of no step", x.undo(), NO);
    }

    private static void eachSortIsUndone() {
        int[] fresh = Looks.at(new SwingCranes());
        for (int sort = 0; sort < SORTS.length; sort++) {
            SwingCranes y = new SwingCranes();
            change(y, sort);
            due(SORTS[sort] + " is one change", y.count(7), 1);
            due(SORTS[sort] + " undone", y.undo(), 0);
            Looks.alike(SORTS[sort] + " undone", Looks.at(y), fresh);
        }
        SwingCranes z = new SwingCranes();
        z.couple(0);
        z.command(0, 12);
        z.tick(60);
        z.couple(-1);
        due("not coupled any more, undone", z.undo(), 3);
        due("coupled again", z.count(5), 0);
        due("60 ticks undone at once", z.undo(), 2);
        due("no ticks", z.count(6), 0);
        due("both steps undone", z.undo(), 1);
        due("no step of 0", z.crane(0, 9), 0);
        due("no step of 1", z.crane(1, 9), 0);
        z.shape(0, 9, 4);
        z.tick(3);
        stepsAre("gone by", z, 0, 2, 5);
        z.undo();
        stepsAre("to come again", z, 0, 1, 4, 5, 5);
        z.undo();
        stepsAre("not told", z, 0);
        z.write('x');
        due("text is no change", z.count(7), 1);
        due("undone behind a letter", z.undo(), 0);
        due("never coupled", z.count(5), NONE);
        due("the letter stays", z.count(8), 1);
    }

    private static void undoneBehindLaid() {
        SwingCranes x = new SwingCranes();
        for (int i = 1; i <= 4; i++) {
            x.load(0, i);
        }
        Check.writeAll(x, "e200;");
        due("not laid", x.lay(), NO);
        due("four still", x.count(7), 4);
        x.wipe();
        due("laid", x.lay(), 600);
        due("none can be", x.count(7), 0);
        due("none is", x.undo(), NO);
        due("the load is as told in the text", x.crane(0, 3), 0);
        x.load(0, 9);
        due("one can be", x.undo(), 0);
        due("none behind it", x.undo(), NO);
        due("not those ahead of LAID", x.crane(0, 3), 0);
    }

    private static SwingCranes running() {
        SwingCranes x = Check.laid("e800;k3,30,9;c0,200,33,5;c1,700,20,0;");
        x.couple(15);
        x.target(0, 45);
        x.shape(0, 14, 7);
        x.tick(4);
        return x;
    }

    private static void aheadIsAsTicks() {
        for (int c = 0; c < 2; c++) {
            SwingCranes x = running();
            SwingCranes gone = running();
            int greatest = 0;
            for (int n = 1; n <= 60; n++) {
                gone.tick(1);
                int[] want = {gone.crane(c, 0), gone.crane(c, 1), gone.crane(c, 2), gone.crane(c, 4)};
                greatest = Math.max(greatest, Math.abs(want[3] - ZERO));
                for (int what = 0; what <= 3; what++) {
                    due("ahead " + n + " of " + c + ": " + what, x.ahead(n, c, what), want[what]);
                }
                due("ahead " + n + " of " + c + ": greatest", x.ahead(n, c, 4), greatest);
            }
            due("ahead 61", x.ahead(61, c, 0), BAD);
            due("ahead 0", x.ahead(0, c, 0), BAD);
        }
        SwingCranes z = new SwingCranes();
        due("no swing in 1", z.ahead(1, 0, 4), 0);
        due("no swing in 60", z.ahead(60, 1, 4), 0);
        SwingCranes y = new SwingCranes();
        y.command(0, 2);
        y.tick(1);
        // S -8 now; R -8 + 4, S -12; then R -4 + 6, S -10; R 2 + 5, S -3.
        due("greatest of 1", y.ahead(1, 0, 4), 12);
        due("greatest of 2", y.ahead(2, 0, 4), 12);
        y.tick(1);
        due("not as it is now", y.ahead(1, 0, 4), 10);
        due("of both", y.ahead(2, 0, 4), 10);
        y.tick(1);
        due("the last only", y.ahead(1, 0, 4), 3);
    }

    private static void aheadOfBraked() {
        SwingCranes x = Check.laid("c0,5,30,0;");
        x.command(0, -40);
        // 2 of 5, STOP 2; then 4 has STOP 6 of 3: 2, then 1 of 1, then none.
        int[] want = {0, 1, 2, 3, 4};
        for (int n = 1; n <= 5; n++) {
            due("braked in " + n, x.ahead(n, 0, 5), want[n - 1]);
            due("the other in " + n, x.ahead(n, 1, 5), 0);
        }
        due("braked in 60", x.ahead(60, 0, 5), 59);
        due("as ticks go by", x.tick(60), 59);
    }

    /** Told a command 0, then tick by tick: quiet is first when it was told to be. */
    private static void quietIs(String when, Supplier<SwingCranes> story, int c) {
        SwingCranes x = story.get();
        int told = x.quiet(c);
        x.command(c, 0);
        int gone = 0;
        while (gone <= 60 && x.crane(c, 12) == 0) {
            x.tick(1);
            gone++;
        }
        due("quiet " + when, told, gone <= 60 ? gone : NONE);
    }

    private static SwingCranes slowing(int speed, int ticks) {
        SwingCranes x = Check.laid("e999;g10;k1,40,3;c0,300,60,0;c1,989,30,0;");
        x.command(0, speed);
        x.tick(ticks);
        return x;
    }

    private static void quietInItsTicks() {
        due("quiet of a new one", new SwingCranes().quiet(1), 0);
        SwingCranes x = new SwingCranes();
        x.command(0, 9);
        due("a step to come is taken by COMMAND 0", x.quiet(0), 0);
        x.shape(0, -9, 20);
        due("two steps, too", x.quiet(0), 0);
        due("they are there still", x.crane(0, 9), 2);
        SwingCranes y = Check.laid("c0,0,30,0;");
        y.command(0, -1);
        y.tick(1);
        due("WANT by a STEP of COMMAND 0: in 1", y.quiet(0), 1);
        due("the other now", y.quiet(1), 0);
        int found = 0;
        for (int speed = 1; speed <= 12; speed++) {
            for (int ticks = 1; ticks <= 12; ticks++) {
                int s = speed;
                int t = ticks;
                quietIs("behind " + t + " ticks of " + s, () -> slowing(s, t), 0);
                int told = slowing(s, t).quiet(0);
                found |= told == NONE ? 1 : told == 0 ? 2 : 4;
            }
        }
        due("some are quiet, some not in 60", found, 5);
    }

    private static SwingCranes coupledUnlike(int level) {
        SwingCranes x = Check.laid("k1,20,2;c0,100,30,0;c1,500,29,0;");
        x.command(0, 12);
        x.command(1, -2);
        x.tick(8);
        x.target(0, 10);
        x.target(1, 10);
        x.couple(level);
        return x;
    }

    private static void quietOfCoupled() {
        for (int level = 0; level <= 20; level++) {
            int l = level;
            quietIs("0 at level " + l, () -> coupledUnlike(l), 0);
            quietIs("1 at level " + l, () -> coupledUnlike(l), 1);
        }
        // Was 0 not told COMMAND 0 as well, its rope would hold that of 1: NONE and 51.
        due("quiet of 1 at level 1", coupledUnlike(1).quiet(1), 18);
        due("quiet of 1 at level 2", coupledUnlike(2).quiet(1), 23);
    }

    /** Each pause on an object of its own, tick by tick. */
    private static void bestIs(String when, Supplier<SwingCranes> story, int c, int w, int pause, int swing) {
        int lowest = 0;
        int least = Integer.MAX_VALUE;
        for (int p = 0; p <= 20; p++) {
            SwingCranes x = story.get();
            x.shape(c, w, p);
            x.tick(20);
            int greatest = 0;
            for (int tick = 21; tick <= 60; tick++) {
                x.tick(1);
                greatest = Math.max(greatest, Math.abs(x.crane(c, 4) - ZERO));
            }
            if (greatest < least) {
                least = greatest;
                lowest = p;
            }
        }
        due(when + ": the pause by ticks", lowest, pause);
        due(when + ": the swing by ticks", least, swing);
        SwingCranes x = story.get();
        due(when + ": pause", x.best(c, w, 0), pause);
        due(when + ": swing", x.best(c, w, 1), swing);
    }

    private static SwingCranes still(String text) {
        return Check.laid("e999;c1,999,30,0;" + text);
    }

    private static SwingCranes ranFor(int rope, int speed, int ticks) {
        SwingCranes x = still("k1,40,6;c0,100," + rope + ",0;");
        x.command(0, speed);
        x.tick(ticks);
        return x;
    }

    private static void bestOfAllPauses() {
        bestIs("all alike", SwingCranes::new, 0, 0, 0, 0);
        bestIs("all alike of 1", SwingCranes::new, 1, 0, 0, 0);
        bestIs("half of 1 is none: all alike but later", SwingCranes::new, 0, 1, 0, 6);
        bestIs("the greatest pause", () -> still("k1,40,6;c0,100,30,0;"), 0, 38, 20, 16);
        bestIs("the greatest but one", () -> still("k1,40,6;c0,100,60,0;"), 0, 6, 19, 0);
        bestIs("below 0", () -> still("k1,40,6;c0,900,60,0;"), 0, -6, 19, 0);
        bestIs("no pause", () -> ranFor(50, 5, 1), 0, 0, 0, 4);
        bestIs("the least pause", () -> ranFor(20, 1, 2), 0, 2, 1, 2);
        bestIs("of 1, 8 and 15 the lowest", () -> ranFor(20, 1, 6), 0, 0, 1, 0);
        bestIs("of 5 and 15 the lowest", () -> still("k1,40,6;c0,100,33,0;"), 0, 2, 5, 0);
        SwingCranes x = new SwingCranes();
        due("most", x.best(0, 40, 0) >= 0 ? 1 : 0, 1);
        due("one more", x.best(0, 41, 0), BAD);
        due("least", x.best(1, -40, 1) >= 0 ? 1 : 0, 1);
        due("one less", x.best(1, -41, 1), BAD);
    }

    private static void bestFromTheFirstToTheLastTick() {
        // With TICK 20 it would be 28, without 21 or without 60 another pause or less.
        bestIs("from 21 on, to 60", () -> still("k1,40,6;c0,100,60,0;"), 0, 16, 20, 26);
        // With TICK 61 it would be 7.
        bestIs("to 60", () -> still("k1,40,6;c0,100,12,0;"), 0, 18, 19, 5);
    }

    private static void bestOfCoupled() {
        for (int level = 0; level <= 20; level += 4) {
            int l = level;
            for (int c = 0; c < 2; c++) {
                SwingCranes x = coupledUnlike(l);
                bestIs(c + " at level " + l, () -> coupledUnlike(l), c, 9, x.best(c, 9, 0), x.best(c, 9, 1));
            }
        }
    }
}
