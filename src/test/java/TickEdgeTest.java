/** What a TICK does, at each boundary that the document names, by answers worked out by hand. */
final class TickEdgeTest {
    private static final int NO = -2, NONE = -4, ZERO = 100000;

    private TickEdgeTest() {
    }

    static void runAll() {
        nearerToWantByTheMost();
        fromOneLimitToTheOther();
        limitByLoad();
        stopOfEachSpeed();
        halfOfEachRope();
        roomToTheEnds();
        roomToTheOther();
        roomAwayFromTheOther();
        bothBraked();
        brakedToTheGreatest();
        swingCutTowardsZero();
        keptFromLeastToMost();
        targetReached();
        hoistAtItsSpeed();
        levelAtItsMost();
        levelAndNearer();
        levelByTheRopeOfZero();
        levelOfNone();
        spotsAtTheirEdges();
        spotsInTheirOrder();
        spotsHadAnewInAnotherOrder();
        allSpotsOfABeam();
        quietAtItsEdges();
        noMoreThan9999();
    }

    private static void due(String what, int got, int want) {
        Check.due("tick edge: " + what, got, want);
    }

    private static int speed(SwingCranes x, int c) {
        return x.crane(c, 1) - ZERO;
    }

    /** The speeds tick by tick of a crane of which w is wanted. */
    private static void speedsAre(SwingCranes x, int c, int w, int... speeds) {
        x.command(c, w);
        for (int i = 0; i < speeds.length; i++) {
            x.tick(1);
            due("wanted " + w + " of " + c + ", tick " + i, speed(x, c), speeds[i]);
        }
    }

    private static void nearerToWantByTheMost() {
        SwingCranes x = Check.laid("e999;k3,40,0;c1,600,30,0;");
        speedsAre(x, 0, 2, 2, 2);
        speedsAre(x, 0, 5, 5);
        speedsAre(x, 0, 9, 8, 9, 9);
        speedsAre(x, 0, 2, 6, 3, 2, 2);
        speedsAre(x, 0, -1, -1, -1);
        speedsAre(x, 0, 3, 2, 3);
        speedsAre(x, 0, 0, 0, 0);
        speedsAre(x, 1, -2, -2);
        speedsAre(x, 1, -5, -5);
        speedsAre(x, 1, -9, -8, -9);
        speedsAre(x, 1, 1, -6, -3, 0, 1);
        SwingCranes y = Check.laid("e999;k9,40,0;c1,700,30,0;");
        speedsAre(y, 0, 40, 9, 18, 27);
        speedsAre(y, 0, 40, 36, 40, 40);
        SwingCranes z = Check.laid("k1,40,0;");
        speedsAre(z, 0, 40, 1, 2, 3);
    }

    private static void fromOneLimitToTheOther() {
        SwingCranes x = Check.laid("e999;k9,9,0;c0,300,30,0;c1,700,30,0;");
        speedsAre(x, 0, 9, 9, 9);
        speedsAre(x, 0, 10, 9);
        due("want isn't cut", x.crane(0, 6), ZERO + 10);
        speedsAre(x, 0, 40, 9);
        speedsAre(x, 0, 8, 8);
        speedsAre(x, 0, -9, -1, -9, -9);
        speedsAre(x, 0, -10, -9);
        speedsAre(x, 0, -40, -9);
        speedsAre(x, 0, -8, -8);
        SwingCranes y = Check.laid("k2,9,0;");
        speedsAre(y, 0, 9, 2, 4, 6, 8, 9);
        y.load(0, 99);
        due("limit by 9 less, 1 at least", y.crane(0, 8), 1);
        speedsAre(y, 0, 9, 7, 5, 3, 1, 1);
        speedsAre(y, 0, -9, -1, -1);
    }

    private static void limitByLoad() {
        int[][] tops = {{40, 0, 40}, {40, 9, 40}, {40, 10, 39}, {40, 19, 39}, {40, 20, 38}, {40, 89, 32}, {40, 90, 31},
            {40, 99, 31}, {12, 99, 3}, {11, 99, 2}, {10, 99, 1}, {10, 89, 2}, {9, 99, 1}, {9, 79, 2}, {9, 80, 1},
            {9, 89, 1}, {2, 9, 2}, {2, 10, 1}, {2, 20, 1}, {1, 0, 1}, {1, 10, 1}, {1, 99, 1}};
        for (int[] a : tops) {
            SwingCranes x = Check.laid("k9," + a[0] + ",0;c1,500,30," + a[1] + ";");
            due("limit of top " + a[0] + " with load " + a[1], x.crane(1, 8), a[2]);
            due("limit of top " + a[0] + " without", x.crane(0, 8), a[0]);
        }
    }

    private static void stopOfEachSpeed() {
        for (int a = 1; a <= 9; a++) {
            SwingCranes x = Check.laid("k" + a + ",12,6;");
            for (int v = -40; v <= 40; v++) {
                int together = 0;
                for (int rest = v < 0 ? -v : v; rest > 0; rest -= a) {
                    together += rest;
                }
                due("stop of " + v + " by " + a, x.stop(v), together);
            }
        }
    }

    private static void halfOfEachRope() {
        SwingCranes x = new SwingCranes();
        for (int l = 10; l <= 60; l++) {
            int h = 1;
            while (8 * h * h < 5 * l) {
                h++;
            }
            due("half of " + l, x.half(l), h);
        }
        due("200 is no less than 5 by 40", x.half(40), 5);
        due("200 is less than 5 by 41", x.half(41), 6);
        SwingCranes y = Check.laid("c0,100,40,0;c1,500,41,0;");
        due("half of a crane's rope", y.crane(0, 11), 5);
        due("half of the other's", y.crane(1, 11), 6);
    }

    /** Crane 0 is wanted to run down with this room, crane 1 up with as much. */
    private static void roomToEnd(int change, int room, int size, int braked) {
        SwingCranes x = Check.laid("k" + change + ",40,0;c0," + room + ",30,0;c1," + (600 - room) + ",30,0;");
        String when = "room " + room + " by " + change;
        x.command(0, -40);
        due(when + ": braked below", x.tick(1), braked);
        due(when + ": speed of 0", speed(x, 0), -size);
        due(when + ": place of 0", x.crane(0, 0), room - size);
        x.command(0, 0);
        x.command(1, 40);
        due(when + ": braked at the end", x.ahead(1, 1, 5), braked);
        x.tick(1);
        due(when + ": speed of 1", speed(x, 1), size);
        due(when + ": place of 1", x.crane(1, 0), 600 - room + size);
    }

    private static void roomToTheEnds() {
        roomToEnd(2, 3, 2, 0);
        roomToEnd(2, 2, 2, 0);
        roomToEnd(2, 1, 1, 1);
        roomToEnd(2, 0, 0, 1);
        roomToEnd(1, 1, 1, 0);
        roomToEnd(1, 0, 0, 1);
        roomToEnd(9, 9, 9, 0);
        roomToEnd(9, 8, 8, 1);
        roomToEnd(9, 1, 1, 1);
        SwingCranes x = Check.laid("e999;g10;c0,989,30,0;c1,999,30,0;");
        x.command(1, 40);
        due("at an END of 999", x.tick(1), 1);
        due("it stands there", x.crane(1, 0), 999);
        SwingCranes y = Check.laid("e200;c0,0,30,0;c1,198,30,0;");
        y.command(1, 40);
        due("2 to an END of 200", y.tick(1), 0);
        due("it came there", y.crane(1, 0), 200);
        due("and is braked", y.tick(1), 1);
        // STOP of 3 by 2 is 3 + 1, of 4 it is 4 + 2.
        SwingCranes z = Check.laid("c0,8,30,0;");
        z.command(0, -40);
        z.tick(1);
        due("6 for 4: not braked", z.tick(1), 0);
        due("6 for 4", speed(z, 0), -4);
        SwingCranes u = Check.laid("c0,7,30,0;");
        u.command(0, -40);
        u.tick(1);
        due("5 for 4: braked", u.tick(1), 1);
        due("5 for 4: 3", speed(u, 0), -3);
        due("2 for 5: braked", u.tick(1), 1);
        due("2 for 5: 2", speed(u, 0), -2);
        due("stands at 0", u.crane(0, 0), 0);
    }

    /** Each alone is wanted to run towards the other, with so many places free between both. */
    private static void roomBetween(int free, int size, int braked) {
        SwingCranes x = Check.laid("c0,100,30,0;c1," + (140 + free) + ",30,0;");
        x.command(0, 40);
        due("free " + free + ": braked 0", x.tick(1), braked);
        due("free " + free + ": speed of 0", speed(x, 0), size);
        due("free " + free + ": free behind it", x.count(9), free - size);
        SwingCranes y = Check.laid("c0,100,30,0;c1," + (140 + free) + ",30,0;");
        y.command(1, -40);
        due("free " + free + ": braked 1", y.tick(1), braked);
        due("free " + free + ": speed of 1", speed(y, 1), -size);
        due("free " + free + ": free behind 1", y.count(9), free - size);
        SwingCranes z = Check.laid("c0,100,30,0;c1," + (140 + free) + ",30,0;");
        z.command(0, 40);
        z.command(1, -40);
        due("free " + free + ": braked both", z.tick(1), 2 * braked);
        due("free " + free + ": free behind both", z.count(9), free - 2 * size);
    }

    private static void roomToTheOther() {
        roomBetween(5, 2, 0);
        roomBetween(4, 2, 0);
        roomBetween(3, 1, 1);
        roomBetween(2, 1, 1);
        roomBetween(1, 0, 1);
        roomBetween(0, 0, 1);
        SwingCranes x = Check.laid("g99;c0,100,30,0;c1,203,30,0;");
        x.command(0, 40);
        due("4 beyond a GAP of 99", x.tick(1), 0);
        due("2 beyond it now: half is 1", x.tick(1), 1);
        due("free", x.count(9), 1);
    }

    private static void roomAwayFromTheOther() {
        SwingCranes x = Check.laid("c0,100,30,0;c1,140,30,0;");
        x.command(0, -40);
        x.command(1, 40);
        due("away from the other with none free", x.tick(3), 0);
        due("0 is away", x.crane(0, 0), 88);
        due("1 is away", x.crane(1, 0), 152);
        SwingCranes y = Check.laid("c0,0,30,0;c1,600,30,0;");
        y.command(0, 40);
        y.command(1, -40);
        due("at the ends, towards the other", y.tick(6), 0);
        due("0 is off its end", y.crane(0, 0), 42);
        due("1 is off its end", y.crane(1, 0), 558);
        y.tick(60);
        due("they never come nearer than GAP", y.count(9) >= 0 && y.count(9) < 2 ? 1 : 0, 1);
        SwingCranes z = Check.laid("c0,0,30,0;c1,600,30,0;");
        due("one that stands has no need of room", z.tick(60), 0);
    }

    private static void bothBraked() {
        SwingCranes x = Check.laid("c0,0,30,0;c1,600,30,0;");
        x.command(0, -1);
        due("0 alone", x.tick(1), 1);
        x.command(1, 1);
        due("each counts in one tick", x.tick(1), 2);
        due("each counts in 60", x.tick(60), 120);
        due("ahead of one of them", x.ahead(60, 0, 5), 60);
        due("ahead of one tick", x.ahead(1, 1, 5), 1);
        x.command(0, 0);
        due("1 alone", x.tick(60), 60);
        due("not 0", x.ahead(60, 0, 5), 0);
    }

    private static void brakedToTheGreatest() {
        // By 1: 4 3 2 1 is 10, 5 4 3 2 1 is 15; 1 + 2 + 3 + 4 have gone by when 5 is tried.
        SwingCranes x = Check.laid("k1,40,0;c0,24,30,0;");
        speedsAre(x, 0, -40, -1, -2, -3, -4, -4, -4, -3, -2, -1, 0);
        due("it stands at 0", x.crane(0, 0), 0);
        SwingCranes y = Check.laid("k1,40,0;c0,25,30,0;");
        speedsAre(y, 0, -40, -1, -2, -3, -4, -5, -4, -3, -2, -1, 0);
        due("this one, too", y.crane(0, 0), 0);
        SwingCranes z = Check.laid("k9,40,0;c1,570,30,0;");
        // 9; 21 left: 18 + 9 is more, 15 + 6 is just that; 6 left; 0 left.
        speedsAre(z, 1, 40, 9, 15, 6, 0);
        due("it stands at END", z.crane(1, 0), 600);
        due("a speed that is small enough isn't braked", Check.laid("c0,1,30,0;").ahead(1, 0, 5), 0);
        SwingCranes u = Check.laid("c0,1,30,0;");
        u.command(0, -1);
        due("1 to go by 1", u.tick(1), 0);
        due("0 to go by 1", u.tick(1), 1);
        u.command(0, 0);
        due("0 wanted", u.tick(1), 0);
    }

    private static void swingIs(String when, SwingCranes x, int swing, int rate) {
        due(when + ": swing", x.crane(0, 4) - ZERO, swing);
        due(when + ": rate", x.crane(0, 5) - ZERO, rate);
    }

    private static void swingCutTowardsZero() {
        for (int sign = -1; sign <= 1; sign += 2) {
            SwingCranes x = Check.laid("c0,100,60,0;");
            x.command(0, sign);
            x.tick(1);
            swingIs("1 faster", x, -4 * sign, -4 * sign);
            x.tick(1);
            // 64 by 60 is 1.07.
            swingIs("64 by 60", x, -7 * sign, -3 * sign);
            x.tick(1);
            // 112 by 60 is 1.9.
            swingIs("112 by 60", x, -9 * sign, -2 * sign);
            x.command(0, 0);
            x.tick(1);
            // 144 by 60 is 2.4; 1 slower is 4.
            swingIs("1 slower", x, -5 * sign, 4 * sign);
            SwingCranes y = Check.laid("c0,100,10,0;");
            y.command(0, sign);
            y.tick(1);
            y.tick(1);
            // 64 by 10 is 6.4.
            swingIs("64 by 10", y, -2 * sign, 2 * sign);
            y.tick(1);
            // 32 by 10 is 3.2.
            swingIs("32 by 10", y, 3 * sign, 5 * sign);
            y.tick(1);
            // 48 by 10 is 4.8.
            swingIs("48 by 10", y, 4 * sign, sign);
        }
        SwingCranes z = Check.laid("c0,0,30,0;");
        z.command(0, -9);
        z.tick(1);
        swingIs("braked to 0: no faster", z, 0, 0);
    }

    /** Driven to and fro so that it swings farther each time. */
    private static SwingCranes pumped(int sign) {
        SwingCranes x = Check.laid("e999;k9,40,40;c0,450,60,0;c1,999,60,0;");
        for (int i = 0; i < 38; i++) {
            x.command(0, i % 2 == 0 ? 27 * sign : -27 * sign);
            x.tick(6);
        }
        return x;
    }

    private static void driveOn(SwingCranes x) {
        x.command(0, x.crane(0, 5) > ZERO ? -40 : 40);
    }

    private static void keptFromLeastToMost() {
        // How often they had to be kept: S above, S below, R above, R below.
        int[] held = new int[4];
        for (int sign = -1; sign <= 1; sign += 2) {
            SwingCranes x = pumped(sign);
            for (int i = 0; i < 24; i++) {
                if (i % 6 == 0) {
                    x.command(0, i % 12 == 0 ? 27 * sign : -27 * sign);
                }
                keptInATick(x, held);
            }
            SwingCranes y = pumped(sign);
            y.target(0, 10);
            y.tick(50);
            for (int i = 0; i < 42; i++) {
                driveOn(y);
                y.tick(1);
            }
            for (int i = 0; i < 20; i++) {
                driveOn(y);
                keptInATick(y, held);
            }
        }
        String[] names = {"S above 9999", "S below -9999", "R above 9999", "R below -9999"};
        for (int i = 0; i < names.length; i++) {
            due(names[i] + " had to be kept", held[i] > 0 ? 1 : 0, 1);
        }
    }

    private static int kept(int number, int[] held, int at) {
        held[at] += number > 9999 ? 1 : 0;
        held[at + 1] += number < -9999 ? 1 : 0;
        return number > 9999 ? 9999 : number < -9999 ? -9999 : number;
    }

    /** A tick held against what the document says of S and R. */
    private static void keptInATick(SwingCranes x, int[] held) {
        int v = speed(x, 0);
        int rope = x.crane(0, 2);
        int s = x.crane(0, 4) - ZERO;
        int r = x.crane(0, 5) - ZERO;
        x.tick(1);
        int rate = kept(r - 16 * s / rope - 4 * (speed(x, 0) - v), held, 2);
        int swing = kept(s + rate, held, 0);
        swingIs("kept of " + s + " and " + r, x, swing, rate);
    }

    private static void ropesAre(String when, SwingCranes x, int first, int second) {
        due(when + ": rope of 0", x.crane(0, 2), first);
        due(when + ": rope of 1", x.crane(1, 2), second);
    }

    private static void targetReached() {
        SwingCranes x = Check.laid("c0,100,11,0;c1,500,59,0;");
        x.target(0, 10);
        x.target(1, 60);
        x.tick(1);
        ropesAre("1 nearer", x, 10, 60);
        x.tick(60);
        ropesAre("there they stay", x, 10, 60);
        x.target(0, 60);
        x.target(1, 10);
        x.tick(49);
        ropesAre("49 of 50", x, 59, 11);
        x.tick(1);
        ropesAre("50 of 50", x, 60, 10);
        x.tick(1);
        ropesAre("51 of 50", x, 60, 10);
    }

    private static void hoistAt(int hoist, int speed, int rope) {
        SwingCranes x = Check.laid("e999;k9,40," + hoist + ";c0,450,30,0;c1,950,30,0;");
        x.command(0, speed);
        x.tick(5);
        x.target(0, 31);
        x.tick(1);
        due("speed " + speed + " with hoist " + hoist + ": it runs so", speed(x, 0), speed);
        due("speed " + speed + " with hoist " + hoist, x.crane(0, 2), rope);
    }

    private static void hoistAtItsSpeed() {
        hoistAt(0, 0, 31);
        hoistAt(0, 1, 30);
        hoistAt(0, -1, 30);
        hoistAt(6, 5, 31);
        hoistAt(6, 6, 31);
        hoistAt(6, 7, 30);
        hoistAt(6, -6, 31);
        hoistAt(6, -7, 30);
        hoistAt(39, 39, 31);
        hoistAt(39, 40, 30);
        hoistAt(40, 40, 31);
        hoistAt(40, -40, 31);
        SwingCranes x = new SwingCranes();
        x.command(0, 7);
        x.tick(4);
        x.target(0, 10);
        x.command(0, 6);
        x.tick(1);
        due("by the speed that it has in this tick", x.crane(0, 2), 29);
        x.command(0, 7);
        x.tick(1);
        due("and that is too fast again", x.crane(0, 2), 29);
    }

    /** Coupled when 0 has rope 30 and 1 has this one; each is told a target of its own ahead of that. */
    private static SwingCranes coupled(int rope, int level, int firstTarget, int secondTarget) {
        SwingCranes x = Check.laid("c0,100,30,0;c1,500," + rope + ",0;");
        x.target(0, firstTarget);
        x.target(1, secondTarget);
        x.couple(level);
        return x;
    }

    private static void levelAtItsMost() {
        for (int level = 0; level <= 20; level++) {
            SwingCranes x = coupled(30, level, 30, 60);
            x.tick(30);
            ropesAre("1 down to level " + level, x, 30, 30 + level);
            SwingCranes y = coupled(30, level, 10, 30);
            y.tick(30);
            ropesAre("0 up to level " + level, y, 30 - level, 30);
            SwingCranes z = coupled(30, level, 60, 10);
            z.tick(60);
            due("both apart to level " + level, z.crane(0, 2) - z.crane(1, 2), level);
        }
        SwingCranes x = coupled(30, 5, 60, 30);
        x.tick(5);
        ropesAre("5 apart in 5", x, 35, 30);
        x.tick(1);
        ropesAre("6 apart is more than 5", x, 35, 30);
        x.couple(6);
        x.tick(1);
        ropesAre("6 apart is no more than 6", x, 36, 30);
        x.couple(-1);
        x.tick(20);
        ropesAre("not coupled, they may", x, 56, 30);
        x.couple(0);
        x.tick(20);
        ropesAre("coupled when apart, none goes farther", x, 56, 30);
    }

    private static void levelAndNearer() {
        SwingCranes x = coupled(50, 0, 60, 30);
        x.tick(3);
        // 1 comes nearer, 0 too: 20 apart, then 18, 16, 14.
        ropesAre("nearer though above the level", x, 33, 47);
        x.tick(60);
        due("level in the end", Math.abs(x.crane(0, 2) - x.crane(1, 2)), 0);
        SwingCranes y = coupled(31, 0, 40, 31);
        y.tick(1);
        ropesAre("nearer to level 0", y, 31, 31);
        y.tick(1);
        ropesAre("no farther from level 0", y, 31, 31);
        SwingCranes z = coupled(29, 0, 40, 40);
        z.tick(1);
        ropesAre("0 would be farther, 1 comes nearer", z, 30, 30);
    }

    private static void levelByTheRopeOfZero() {
        SwingCranes x = coupled(31, 1, 40, 40);
        x.tick(1);
        ropesAre("1 by the rope that 0 has then", x, 31, 32);
        SwingCranes y = coupled(29, 1, 40, 40);
        y.tick(1);
        ropesAre("0 first, by the rope that 1 had", y, 30, 30);
        y.tick(1);
        ropesAre("level: 0 may go 1, 1 comes behind", y, 31, 31);
        SwingCranes z = coupled(30, 0, 40, 40);
        z.tick(60);
        ropesAre("level 0 holds both", z, 30, 30);
        SwingCranes u = coupled(31, 0, 40, 20);
        u.tick(1);
        // 0 goes to 31, so that 1 would be farther by the rope that 0 has then.
        ropesAre("1 is held by what 0 did", u, 31, 31);
    }

    private static void levelOfNone() {
        SwingCranes x = Check.laid("c0,100,10,0;c1,500,10,0;");
        x.target(1, 60);
        x.tick(50);
        ropesAre("not coupled: 50 apart", x, 10, 60);
        x.couple(20);
        x.target(0, 35);
        x.tick(25);
        ropesAre("coupled: both to 35", x, 35, 35);
    }

    private static void spotIs(String when, SwingCranes x, int c, int k, int block, int floor, int ticks) {
        due(when + ": block of spot " + k, x.spot(c, k, 0), block);
        due(when + ": floor of spot " + k, x.spot(c, k, 1), floor);
        due(when + ": ticks of spot " + k, x.spot(c, k, 2), ticks);
        due(when + ": been there", x.been(c, block, floor), ticks);
    }

    private static void spotAt(int end, int place, int rope, int block, int floor) {
        String text = "e" + end + ";c0,0,10,0;c1," + place + "," + rope + ",0;";
        SwingCranes x = Check.laid(text);
        due("no spot yet, " + text, x.spot(1, -1, 0), 0);
        due("nor the first one, " + text, x.spot(1, 0, 0), NONE);
        due("nor been, " + text, x.been(1, block, floor), 0);
        x.tick(1);
        spotIs(text, x, 1, 0, block, floor, 1);
        spotIs(text + " of 0", x, 0, 0, 0, 1, 1);
        x.tick(60);
        spotIs(text, x, 1, 0, block, floor, 61);
        due("one spot, " + text, x.spot(1, -1, 0), 1);
        due("none behind it, " + text, x.spot(1, 1, 0), NONE);
        due("none at the greatest k, " + text, x.spot(1, Integer.MAX_VALUE, 0), NONE);
        due("not the block beside, " + text, x.been(1, block + 1, floor), 0);
        due("not the floor beside, " + text, x.been(1, block, floor + 1), 0);
        due("not the other way round, " + text, x.been(1, floor, block), block == floor ? 61 : 0);
        if (block > 0) {
            due("not the block before with the greatest floor, " + text, x.been(1, block - 1, 99), 0);
            due("nor with one less, " + text, x.been(1, block - 1, 98), 0);
        }
        due("not the least, " + text, x.been(1, 0, 0), 0);
        due("not the greatest, " + text, x.been(1, 99, 99), 0);
    }

    private static void spotsAtTheirEdges() {
        spotAt(600, 49, 10, 0, 1);
        spotAt(600, 50, 19, 1, 1);
        spotAt(600, 99, 20, 1, 2);
        spotAt(600, 100, 29, 2, 2);
        spotAt(600, 599, 59, 11, 5);
        spotAt(600, 600, 60, 12, 6);
        spotAt(999, 949, 10, 18, 1);
        spotAt(999, 950, 60, 19, 6);
        spotAt(999, 999, 60, 19, 6);
        spotAt(200, 200, 11, 4, 1);
    }

    private static void spotsInTheirOrder() {
        SwingCranes x = Check.laid("k1,1,1;c0,98,29,0;");
        x.command(0, 1);
        x.tick(4);
        // 99; 100, 101, 102.
        spotIs("to and fro", x, 0, 0, 1, 2, 1);
        spotIs("to and fro", x, 0, 1, 2, 2, 3);
        x.command(0, -1);
        x.tick(6);
        // 102, 101, 100, 99, 98, 97.
        spotIs("had again", x, 0, 0, 1, 2, 4);
        spotIs("had again", x, 0, 1, 2, 2, 6);
        due("two spots", x.spot(0, -1, 2), 2);
        x.target(0, 30);
        x.tick(1);
        spotIs("by the rope behind the tick", x, 0, 2, 1, 3, 1);
        due("none behind the last", x.spot(0, 3, 1), NONE);
        x.undo();
        due("undone, it is none any more", x.spot(0, 2, 0), NONE);
        due("nor been", x.been(0, 1, 3), 0);
        x.undo();
        x.undo();
        spotIs("undone", x, 0, 0, 1, 2, 1);
        x.command(0, 0);
        x.tick(1);
        spotIs("on from there", x, 0, 1, 2, 2, 4);
    }

    private static void spotsHadAnewInAnotherOrder() {
        SwingCranes x = Check.laid("k1,1,1;c0,98,29,0;");
        x.command(0, 1);
        x.tick(4);
        due("two had", x.spot(0, -1, 0), 2);
        Check.writeAll(x, "c0,100,29,0;");
        x.lay();
        due("none had when LAID", x.spot(0, -1, 0), 0);
        due("nor the first", x.spot(0, 0, 0), NONE);
        due("nor been there", x.been(0, 2, 2), 0);
        x.tick(3);
        due("one had", x.spot(0, -1, 0), 1);
        spotIs("the second one is the first now", x, 0, 0, 2, 2, 3);
        due("not been in the other", x.been(0, 1, 2), 0);
        x.command(0, -1);
        x.tick(2);
        due("two had again", x.spot(0, -1, 0), 2);
        spotIs("the first one is the second now", x, 0, 1, 1, 2, 2);
        x.undo();
        x.undo();
        x.undo();
        x.target(0, 30);
        x.tick(1);
        due("another one had behind undone ones", x.spot(0, -1, 0), 1);
        spotIs("another one", x, 0, 0, 2, 3, 1);
        x.target(0, 28);
        x.tick(5);
        spotIs("an undone one had behind it", x, 0, 1, 2, 2, 5);
        due("no third", x.spot(0, 2, 2), NONE);
    }

    /** To and fro, with the next floor of the rope each time: 20 blocks with 6 floors each. */
    private static void allSpotsOfABeam() {
        SwingCranes x = Check.laid("e999;g10;k9,40,40;c0,0,10,0;c1,999,30,0;");
        for (int floor = 1; floor <= 6; floor++) {
            x.command(0, floor % 2 == 1 ? 40 : -40);
            x.tick(40);
            x.target(0, Math.min(10 * floor + 10, 60));
            x.tick(10);
        }
        due("all spots", x.spot(0, -1, 0), 120);
        int[] had = new int[120];
        int ticks = 0;
        for (int k = 0; k < 120; k++) {
            int block = x.spot(0, k, 0);
            int floor = x.spot(0, k, 1);
            had[block * 6 + floor - 1]++;
            ticks += x.spot(0, k, 2);
        }
        for (int spot = 0; spot < had.length; spot++) {
            due("had once, spot " + spot, had[spot], 1);
        }
        due("each tick is in one of them", ticks, 300);
        due("no more", x.spot(0, 120, 0), NONE);
        due("the other stands", x.spot(1, -1, 0), 1);
        due("the other's ticks", x.been(1, 19, 3), 300);
    }

    private static void quietIs(int rope, int w, int ticks, int swing, int rate, int quiet) {
        SwingCranes x = Check.laid("c0,100," + rope + ",0;k3,9,6;");
        x.command(0, w);
        x.tick(1);
        x.command(0, 0);
        x.tick(ticks);
        String when = "rope " + rope + ", " + w + ", " + ticks;
        swingIs(when, x, swing, rate);
        due(when + ": stands", speed(x, 0), 0);
        due(when + ": quiet", x.crane(0, 12), quiet);
        if (quiet == 1) {
            due(when + ": quiet now", x.quiet(0), 0);
        } else {
            due(when + ": not quiet now", x.quiet(0) != 0 ? 1 : 0, 1);
        }
    }

    private static void quietAtItsEdges() {
        for (int sign = -1; sign <= 1; sign += 2) {
            quietIs(60, sign, 1, -3 * sign, sign, 1);
            quietIs(45, sign, 4, 3 * sign, 2 * sign, 1);
            quietIs(45, sign, 5, 4 * sign, sign, 0);
            quietIs(30, sign, 1, -2 * sign, 2 * sign, 1);
            quietIs(20, sign, 1, -sign, 3 * sign, 0);
            quietIs(60, 2 * sign, 3, 0, 3 * sign, 0);
        }
        SwingCranes x = Check.laid("c0,0,30,0;");
        x.command(0, -1);
        x.tick(1);
        swingIs("held at the end", x, 0, 0);
        due("held at the end: it stands", speed(x, 0), 0);
        due("held at the end: WANT is not 0", x.crane(0, 12), 0);
        SwingCranes y = new SwingCranes();
        y.shape(1, 1, 20);
        y.tick(20);
        due("a STEP is to come in 1", y.stepOf(1, 0, 0), 1);
        due("a STEP is to come", y.crane(1, 12), 0);
        y.command(1, 0);
        due("none is to come", y.crane(1, 12), 1);
        quietButForItsSpeed();
    }

    private static void quietButForItsSpeed() {
        SwingCranes x = Check.laid("k1,9,6;c0,300,10,0;");
        x.command(0, 3);
        x.tick(6);
        x.command(0, 0);
        x.tick(1);
        // V 1, 2, 3, 3, 3, 3, 2; R -4, -2, 3, 7, 1, -7, 0; S -4, -6, -3, 4, 5, -2, -2.
        swingIs("running", x, -2, 0);
        due("running: want", x.crane(0, 6), ZERO);
        due("running: speed", speed(x, 0), 2);
        due("running: not quiet", x.crane(0, 12), 0);
    }

    private static void noMoreThan9999() {
        SwingCranes x = new SwingCranes();
        for (int i = 0; i < 166; i++) {
            due("60 ticks, " + i, x.tick(60), 0);
        }
        due("40 more would be 10000", x.tick(40), NO);
        due("60 more would be 10020", x.tick(60), NO);
        due("39 more are 9999", x.tick(39), 0);
        due("ticks", x.count(6), 9999);
        due("1 more would be 10000", x.tick(1), NO);
        due("ticks still", x.count(6), 9999);
        due("a command is heeded still", x.command(0, 5), 1);
        due("ahead is told still", x.ahead(1, 0, 0), 102);
        due("but not gone", x.tick(1), NO);
        due("the command undone", x.undo(), 3);
        due("the 39 undone", x.undo(), 2);
        due("38 more are 9998", x.tick(38), 0);
        due("2 more would be 10000", x.tick(2), NO);
        due("1 more is 9999", x.tick(1), 0);
        due("ticks in the end", x.spot(0, 0, 2), 9999);
        due("laid", x.lay(), 600);
        due("none gone by", x.count(6), 0);
        due("there is room again", x.tick(60), 0);
    }
}
