import java.util.ArrayList;
import java.util.List;
import java.util.function.Consumer;

/** What a call tells is all that it changes: a twin that is not called stays alike in all else. */
final class AloneTest {
    private static final int NO = -2;
    private static final int NOT_COUPLED = -1;
    private static final String TEXT = "e800;g30;k3,18,9;c0,240,22,15;c1,560,41,27;";

    private AloneTest() {
    }

    static void runAll() {
        for (int level : new int[] {NOT_COUPLED, 0, 20}) {
            for (int c = 0; c < 2; c++) {
                commandsAlone(level, c);
                targetsAlone(level, c);
                loadsAlone(level, c);
            }
            couplingAlone(level);
            ticksLeaveWhatIsTold(level);
            textsAlone(level);
            undoingLeavesTheText(level);
            laidAnewIsAsNew(level);
        }
    }

    /** Both run and swing, with a rope under way and a step to come each, and not alike. */
    private static SwingCranes busy(int level) {
        SwingCranes x = Check.laid(TEXT);
        x.target(0, 45);
        x.target(1, 17);
        x.shape(0, -15, 20);
        x.shape(1, 13, 18);
        x.tick(7);
        x.load(0, 33);
        if (level != NOT_COUPLED) {
            x.couple(level);
        }
        return x;
    }

    private static int heeding(int level) {
        return level == NOT_COUPLED ? 1 : 2;
    }

    private static boolean heeds(int level, int c, int other) {
        return c == other || level != NOT_COUPLED;
    }

    /** Calls one of twins; all looks but those told must stay, and all must be there again when it is undone. */
    private static void alone(String call, int level, Consumer<SwingCranes> called, List<Integer> told) {
        SwingCranes x = busy(level);
        SwingCranes twin = busy(level);
        called.accept(x);
        String when = call + " at level " + level;
        onlyThese(when, Looks.at(x), Looks.at(twin), told);
        Check.due(when + " can be undone", x.count(7), 4);
        Check.due(when + " undone", x.undo(), 3);
        Looks.alike(when + " undone", Looks.at(x), Looks.at(twin));
    }

    private static void onlyThese(String when, int[] got, int[] was, List<Integer> told) {
        for (int i = 0; i < Looks.AHEAD; i++) {
            if (!told.contains(i)) {
                Check.due(when + " changes no more than it tells, look " + i, got[i], was[i]);
            }
        }
    }

    private static List<Integer> stepsOfAll(int level, int c) {
        List<Integer> told = new ArrayList<>();
        for (int other = 0; other < 2; other++) {
            if (heeds(level, c, other)) {
                told.add(Looks.ofCrane(other, 9));
                for (int k = 0; k < 2; k++) {
                    told.add(Looks.ofStep(other, k, 0));
                    told.add(Looks.ofStep(other, k, 1));
                }
            }
        }
        return told;
    }

    private static void commandsAlone(int level, int c) {
        List<Integer> told = stepsOfAll(level, c);
        alone("command of " + c, level, x -> x.command(c, 3), told);
        alone("command 0 of " + c, level, x -> x.command(c, 0), told);
        alone("command of " + c + " to what it wants", level, x -> x.command(c, x.crane(c, 6) - SwingCranes.ZERO), told);
        alone("shape of " + c, level, x -> x.shape(c, -9, 5), told);
        alone("shape of " + c + " by its rope", level, x -> x.shape(c, 40, -1), told);
        Check.due("heeding at level " + level, busy(level).command(c, 3), heeding(level));
    }

    private static void targetsAlone(int level, int c) {
        List<Integer> told = new ArrayList<>();
        for (int other = 0; other < 2; other++) {
            if (heeds(level, c, other)) {
                told.add(Looks.ofCrane(other, 7));
            }
        }
        alone("target of " + c, level, x -> x.target(c, 50), told);
        alone("target of " + c + ", its rope", level, x -> x.target(c, x.crane(c, 2)), told);
    }

    private static void loadsAlone(int level, int c) {
        List<Integer> told = List.of(Looks.ofCrane(c, 3), Looks.ofCrane(c, 8));
        alone("load of " + c, level, x -> x.load(c, 99), told);
        alone("no load of " + c, level, x -> x.load(c, 0), told);
    }

    private static void couplingAlone(int level) {
        List<Integer> told = List.of(Looks.ofCount(5));
        alone("coupled", level, x -> x.couple(7), told);
        if (level != NOT_COUPLED) {
            alone("not coupled", level, x -> x.couple(NOT_COUPLED), told);
        }
    }

    private static void ticksLeaveWhatIsTold(int level) {
        for (int n : new int[] {1, 11, 60}) {
            SwingCranes x = busy(level);
            int[] was = Looks.at(x);
            x.tick(n);
            int[] got = Looks.at(x);
            String when = n + " ticks at level " + level;
            for (int what : new int[] {0, 1, 2, 3, 4, 5, 8}) {
                int look = Looks.ofCount(what);
                Check.due(when + ": count(" + what + ") stays", got[look], was[look]);
            }
            for (int c = 0; c < 2; c++) {
                for (int what : new int[] {3, 7, 8}) {
                    int look = Looks.ofCrane(c, what);
                    Check.due(when + ": crane(" + c + ", " + what + ") stays", got[look], was[look]);
                }
            }
            Check.due(when + ": fault stays", got[Looks.ofFault()], was[Looks.ofFault()]);
        }
    }

    /** Text calls change THE TEXT alone, are no changes, and leave all that can be undone. */
    private static void textsAlone(int level) {
        textAlone("write", level, x -> x.write('x'));
        textAlone("write of an item", level, x -> Check.writeAll(x, "e300;g99;k9,1,0;"));
        textAlone("wipe", level, x -> x.wipe());
        textAlone("wiped twice", level, x -> {
            x.wipe();
            x.wipe();
        });
        textAlone("fault", level, x -> x.fault());
        textAlone("fault of another text", level, x -> {
            x.wipe();
            Check.writeAll(x, "e300;g99;k9,1,0;");
            x.fault();
        });
    }

    private static void textAlone(String call, int level, Consumer<SwingCranes> called) {
        List<Integer> told = List.of(Looks.ofCount(8), Looks.ofFault());
        SwingCranes x = busy(level);
        SwingCranes twin = busy(level);
        called.accept(x);
        String when = call + " at level " + level;
        for (int more = 3; more >= 0; more--) {
            onlyThese(when + ", " + more + " more", Looks.at(x), Looks.at(twin), told);
            Check.due(when + ", undone", x.undo(), more);
            twin.undo();
        }
        onlyThese(when + ", all undone", Looks.at(x), Looks.at(twin), told);
        Check.due(when + ", no more", x.undo(), NO);
    }

    private static void undoingLeavesTheText(int level) {
        SwingCranes x = busy(level);
        Check.writeAll(x, "e999;x");
        for (int more = 3; more >= 0; more--) {
            Check.due("undone at level " + level, x.undo(), more);
            Check.due("letters behind undone", x.count(8), TEXT.length() + 6);
            Check.due("fault behind undone", x.fault(), TEXT.length() + 5);
        }
    }

    private static void laidAnewIsAsNew(int level) {
        SwingCranes x = busy(level);
        Check.due("laid anew", x.lay(), 800);
        SwingCranes fresh = Check.laid(TEXT);
        Looks.alike("laid anew at level " + level, Looks.at(x), Looks.at(fresh));
        Check.due("laid anew, undone", x.undo(), NO);
        x.tick(60);
        fresh.tick(60);
        Looks.alike("laid anew, 60 ticks on", Looks.at(x), Looks.at(fresh));
    }
}
