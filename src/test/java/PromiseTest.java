/** The promises one by one, by answers worked out by hand from the document. */
final class PromiseTest {
    private static final int BAD = -1, NO = -2, FULL = -3, NONE = -4, ZERO = 100000;

    private PromiseTest() {
    }

    static void runAll() {
        aNewObject();
        write();
        wipe();
        fault();
        lay();
        layStartsAnew();
        command();
        shape();
        target();
        load();
        couple();
        tick();
        tickBrakes();
        tickHoists();
        tickSwings();
        tickHasAnEnd();
        undo();
        crane();
        stepOf();
        stop();
        half();
        spot();
        been();
        ahead();
        quiet();
        best();
        count();
    }

    private static void due(String what, int got, int want) {
        Check.due(what, got, want);
    }

    private static void craneIs(String when, SwingCranes x, int c, int... want) {
        for (int what = 0; what < want.length; what++) {
            due(when + ": crane(" + c + ", " + what + ")", x.crane(c, what), want[what]);
        }
    }

    private static void countIs(String when, SwingCranes x, int... want) {
        for (int what = 0; what < want.length; what++) {
            due(when + ": count(" + what + ")", x.count(what), want[what]);
        }
    }

    private static void aNewObject() {
        SwingCranes x = new SwingCranes();
        due("1 fault", x.fault(), NONE);
        craneIs("1", x, 0, 100, ZERO, 30, 0, ZERO, ZERO, ZERO, 30, 12, 0, 0, 5, 1);
        craneIs("1", x, 1, 500, ZERO, 30, 0, ZERO, ZERO, ZERO, 30, 12, 0, 0, 5, 1);
        countIs("1", x, 600, 40, 2, 12, 6, NONE, 0, 0, 0, 360);
        due("1 undo", x.undo(), NO);
        due("1 steps", x.stepOf(0, 0, 0), NONE);
        due("1 spots", x.spot(0, -1, 0), 0);
        due("1 no spot of the other", x.spot(1, 0, 0), NONE);
        due("1 been", x.been(0, 2, 3), 0);
    }

    private static void write() {
        SwingCranes x = new SwingCranes();
        due("2 below", x.write(31), BAD);
        due("2 above", x.write(127), BAD);
        due("2 far below", x.write(Integer.MIN_VALUE), BAD);
        due("2 a letter and 256", x.write(101 + 256), BAD);
        due("2 least", x.write(32), 1);
        due("2 most", x.write(126), 2);
        for (int i = 3; i <= 200; i++) {
            due("2 letter " + i, x.write('e'), i);
        }
        due("2 full", x.write('e'), FULL);
        due("2 bad and full", x.write(31), BAD);
        due("2 still 200", x.count(8), 200);
    }

    private static void wipe() {
        SwingCranes x = new SwingCranes();
        due("3 empty", x.wipe(), 0);
        Check.writeAll(x, "e300;x");
        due("3 was", x.wipe(), 6);
        due("3 is empty", x.count(8), 0);
        due("3 no fault then", x.fault(), NONE);
        due("3 again", x.wipe(), 0);
        for (int i = 0; i < 201; i++) {
            x.write(';');
        }
        due("3 a full one", x.wipe(), 200);
        due("3 room again", x.write('e'), 1);
    }

    private static void faultIs(String text, int want) {
        SwingCranes x = new SwingCranes();
        Check.writeAll(x, text);
        due("4 fault of " + text, x.fault(), want);
        due("4 letters of " + text, x.count(8), text.length());
        if (want != NONE) {
            due("4 lay of " + text, x.lay(), NO);
        }
    }

    private static void fault() {
        String[] so = {"", "e200;", "e999;", "g10;", "g99;", "g010;", "c0,0,10,0;", "c1,999,60,99;", "c000,007,010,009;",
            "c001,500,30,0;", "k1,1,0;", "k9,40,40;", "k009,040,000;", "e600;g40;c0,100,30,0;c1,500,30,0;k2,12,6;",
            "e300;e400;e500;", "c0,999,60,0;"};
        for (String text : so) {
            faultIs(text, NONE);
        }
        String[] notSo = {";", "e;", "e", "e600", "e199;", "e1000;", "e0600;", "e-300;", "e 300;", "e300,;", "E300;",
            " e300;", "g9;", "g100;", "g;", "g40", "c2,100,30,0;", "c,100,30,0;", "c0,1000,30,0;", "c0,100,9,0;",
            "c0,100,61,0;", "c0,100,30,100;", "c0,100,30;", "c0,100,30,0,0;", "c0,100,30,0", "c0;100;30;0;",
            "c0,,30,0;", "c0,100,30,;", "k0,12,6;", "k10,12,6;", "k2,0,6;", "k2,41,6;", "k2,12,41;", "k2,12;",
            "k2,12,6,6;", "k2,12,;", "x", "600;", "ee600;", "e6/0;", "e6:0;", "c10,100,30,0;", "c0100,100,30,0;"};
        for (String text : notSo) {
            faultIs(text, 0);
            faultIs("e300;" + text, 5);
            faultIs("g40;" + text + "e1;", 4);
        }
        faultIs("e300;e300;e300 ;", 10);
        faultIs("e300;;", 5);
        StringBuilder full = new StringBuilder();
        for (int i = 0; i < 40; i++) {
            full.append("e300;");
        }
        faultIs(full.toString(), NONE);
        faultIs(full.substring(0, 199) + ",", 195);
    }

    private static void layIs(String text, int want) {
        SwingCranes x = new SwingCranes();
        x.load(0, 7);
        Check.writeAll(x, text);
        due("5 lay of " + text, x.lay(), want);
        due("5 the text stays, " + text, x.count(8), text.length());
        due("5 what was stays only at NO, " + text, x.count(7), want == NO ? 1 : 0);
        if (want == NO) {
            due("5 end stays at NO, " + text, x.count(0), 600);
            due("5 load stays at NO, " + text, x.crane(0, 3), 7);
        }
    }

    private static void lay() {
        layIs("", 600);
        layIs("e999;", 999);
        layIs("e500;", 500);
        layIs("e499;", NO);
        layIs("e200;", NO);
        layIs("c1,600,30,0;", 600);
        layIs("c1,601,30,0;", NO);
        layIs("c1,140,30,0;", 600);
        layIs("c1,139,30,0;", NO);
        layIs("c0,460,30,0;", 600);
        layIs("c0,461,30,0;", NO);
        layIs("c0,999,30,0;c1,0,30,0;", NO);
        layIs("c0,560,30,0;c1,600,30,0;", 600);
        layIs("c0,700,30,0;c1,800,30,0;", NO);
        layIs("g99;c0,0,30,0;c1,99,30,0;", 600);
        layIs("g99;c0,0,30,0;c1,98,30,0;", NO);
        layIs("e200;e999;e300;c1,300,30,0;", 300);
        layIs("c1,999,30,0;c0,1,30,0;c1,400,30,0;", 600);
        SwingCranes x = Check.laid("c0,7,10,9;c1,999,60,99;k9,40,0;e999;g99;c0,8,11,10;");
        craneIs("5", x, 0, 8, ZERO, 11, 10, ZERO, ZERO, ZERO, 11, 39, 0, 0, 3, 1);
        craneIs("5", x, 1, 999, ZERO, 60, 99, ZERO, ZERO, ZERO, 60, 31, 0, 0, 7, 1);
        countIs("5", x, 999, 99, 9, 40, 0, NONE, 0, 0, 51, 892);
        x.wipe();
        due("5 without all", x.lay(), 600);
        countIs("5 without all", x, 600, 40, 2, 12, 6, NONE, 0, 0, 0, 360);
        craneIs("5 without all", x, 0, 100, ZERO, 30, 0, ZERO, ZERO, ZERO, 30, 12, 0, 0, 5, 1);
    }

    private static void layStartsAnew() {
        SwingCranes x = new SwingCranes();
        x.couple(3);
        x.target(0, 35);
        x.load(0, 50);
        x.shape(1, 9, 20);
        x.tick(7);
        due("5 anew", x.lay(), 600);
        for (int c = 0; c < 2; c++) {
            craneIs("5 anew", x, c, c == 0 ? 100 : 500, ZERO, 30, 0, ZERO, ZERO, ZERO, 30, 12, 0, 0, 5, 1);
            due("5 anew: steps", x.stepOf(c, 0, 1), NONE);
            due("5 anew: spots", x.spot(c, -1, 0), 0);
            due("5 anew: been", x.been(c, c == 0 ? 2 : 10, 3), 0);
        }
        countIs("5 anew", x, 600, 40, 2, 12, 6, NONE, 0, 0, 0, 360);
        due("5 anew: nothing undone", x.undo(), NO);
        x.tick(2);
        due("5 anew: ticks in a spot", x.spot(0, 0, 2), 2);
    }

    private static void command() {
        SwingCranes x = new SwingCranes();
        int[][] wrong = {{-1, 0}, {2, 0}, {0, -41}, {0, 41}, {Integer.MAX_VALUE, 0}, {0, Integer.MIN_VALUE}};
        for (int[] a : wrong) {
            due("6 bad " + a[0] + " " + a[1], x.command(a[0], a[1]), BAD);
        }
        due("6 no change by bad ones", x.count(7), 0);
        due("6 most", x.command(0, 40), 1);
        due("6 not the other", x.crane(1, 9), 0);
        due("6 step", x.stepOf(0, 0, 1), ZERO + 40);
        due("6 want not yet", x.crane(0, 6), ZERO);
        x.tick(1);
        due("6 want then", x.crane(0, 6), ZERO + 40);
        due("6 step gone", x.crane(0, 9), 0);
        due("6 least", x.command(0, -40), 1);
        due("6 by how much", x.stepOf(0, 0, 1), ZERO - 80);
        x.shape(0, 20, 9);
        due("6 two steps", x.crane(0, 9), 2);
        due("6 those are gone", x.command(0, 39), 1);
        due("6 one step", x.crane(0, 9), 1);
        due("6 it alone", x.stepOf(0, 0, 1), ZERO - 1);
        due("6 none for the same", x.command(0, 40), 1);
        due("6 no step of 0", x.crane(0, 9), 0);
        SwingCranes y = new SwingCranes();
        y.command(1, 5);
        y.tick(1);
        y.couple(0);
        due("6 both", y.command(0, -3), 2);
        due("6 both: 0", y.stepOf(0, 0, 1), ZERO - 3);
        due("6 both: 1 by its own want", y.stepOf(1, 0, 1), ZERO - 8);
        y.couple(-1);
        due("6 one again", y.command(1, 5), 1);
        due("6 one again: 0 as it was", y.stepOf(0, 0, 1), ZERO - 3);
    }

    private static void stepsAre(String when, SwingCranes x, int c, int... inAndBy) {
        due(when + ": steps", x.crane(c, 9), inAndBy.length / 2);
        for (int k = 0; k < inAndBy.length / 2; k++) {
            due(when + ": in, " + k, x.stepOf(c, k, 0), inAndBy[2 * k]);
            due(when + ": by, " + k, x.stepOf(c, k, 1), ZERO + inAndBy[2 * k + 1]);
        }
        due(when + ": no more", x.stepOf(c, inAndBy.length / 2, 0), NONE);
    }

    private static void shape() {
        SwingCranes x = new SwingCranes();
        int[][] wrong = {{-1, 0, 0}, {2, 0, 0}, {0, -41, 0}, {0, 41, 0}, {0, 0, -2}, {0, 0, 21}};
        for (int[] a : wrong) {
            due("7 bad " + a[0] + " " + a[1] + " " + a[2], x.shape(a[0], a[1], a[2]), BAD);
        }
        due("7 no change by bad ones", x.count(7), 0);
        due("7", x.shape(0, 9, 20), 1);
        stepsAre("7 the rest is more", x, 0, 1, 4, 21, 5);
        stepsAre("7 not the other", x, 1);
        x.shape(0, -9, 1);
        stepsAre("7 cut towards 0", x, 0, 1, -4, 2, -5);
        x.shape(0, 1, 3);
        stepsAre("7 a half of 0 is none", x, 0, 4, 1);
        x.shape(0, -1, 3);
        stepsAre("7 likewise below", x, 0, 4, -1);
        x.shape(0, 6, 0);
        stepsAre("7 both in the next", x, 0, 1, 3, 1, 3);
        x.tick(1);
        due("7 both were heeded", x.crane(0, 6), ZERO + 6);
        stepsAre("7 both are gone", x, 0);
        x.shape(0, 6, 5);
        stepsAre("7 nothing to do", x, 0);
        x.shape(0, 0, -1);
        stepsAre("7 half a swing of 30", x, 0, 1, -3, 6, -3);
        x.tick(3);
        stepsAre("7 the rest is nearer", x, 0, 3, -3);
        due("7 half of it is made", x.crane(0, 6), ZERO + 3);
        x.shape(0, 8, 2);
        stepsAre("7 from where it is", x, 0, 1, 2, 3, 3);
        SwingCranes y = Check.laid("c0,100,10,0;c1,500,60,0;");
        y.couple(20);
        due("7 both", y.shape(1, -8, -1), 2);
        stepsAre("7 both: 0 by its rope", y, 0, 1, -4, 4, -4);
        stepsAre("7 both: 1 by its rope", y, 1, 1, -4, 8, -4);
        y.tick(3);
        due("7 both: not yet", y.crane(0, 6), ZERO - 4);
        y.tick(1);
        due("7 both: 0 then", y.crane(0, 6), ZERO - 8);
        due("7 both: 1 not then", y.crane(1, 6), ZERO - 4);
        y.tick(4);
        due("7 both: 1 in the end", y.crane(1, 6), ZERO - 8);
    }

    private static void target() {
        SwingCranes x = new SwingCranes();
        int[][] wrong = {{-1, 20}, {2, 20}, {0, 9}, {0, 61}, {1, -30}, {-1, 30}};
        for (int[] a : wrong) {
            due("8 bad " + a[0] + " " + a[1], x.target(a[0], a[1]), BAD);
        }
        due("8 its own", x.target(0, 30), NO);
        due("8 no change", x.count(7), 0);
        due("8 least", x.target(0, 10), 30);
        due("8 most", x.target(0, 60), 10);
        due("8 not the other", x.crane(1, 7), 30);
        x.couple(5);
        due("8 not so of both", x.target(1, 60), 30);
        due("8 both", x.crane(0, 7), 60);
        due("8 so of both", x.target(0, 60), NO);
        due("8 both anew", x.target(0, 20), 60);
        due("8 both anew: 1", x.crane(1, 7), 20);
        x.couple(-1);
        x.target(0, 40);
        x.couple(5);
        due("8 so of the other only", x.target(0, 20), 40);
        due("8 the rope itself is as it was", x.crane(0, 2), 30);
    }

    private static void load() {
        SwingCranes x = new SwingCranes();
        int[][] wrong = {{-1, 0}, {2, 5}, {0, -1}, {1, 100}};
        for (int[] a : wrong) {
            due("9 bad " + a[0] + " " + a[1], x.load(a[0], a[1]), BAD);
        }
        due("9 so", x.load(0, 0), NO);
        due("9 no change", x.count(7), 0);
        due("9 was", x.load(0, 99), 0);
        due("9 was 99", x.load(0, 10), 99);
        due("9 not the other", x.crane(1, 3), 0);
        x.couple(3);
        due("9 one though coupled", x.load(1, 19), 0);
        due("9 one though coupled: 0", x.crane(0, 3), 10);
        due("9 limit, cut", x.crane(1, 8), 11);
        SwingCranes y = Check.laid("k2,5,6;");
        y.load(0, 39);
        due("9 limit 2", y.crane(0, 8), 2);
        y.load(0, 40);
        due("9 limit 1", y.crane(0, 8), 1);
        y.load(0, 99);
        due("9 limit 1 at least", y.crane(0, 8), 1);
        y.command(0, 40);
        y.tick(5);
        due("9 held to the limit", y.crane(0, 1), ZERO + 1);
        due("9 want is not cut", y.crane(0, 6), ZERO + 40);
        y.load(0, 9);
        y.tick(5);
        due("9 the limit is wider", y.crane(0, 1), ZERO + 5);
    }

    private static void couple() {
        SwingCranes x = new SwingCranes();
        due("10 bad", x.couple(-2), BAD);
        due("10 bad above", x.couple(21), BAD);
        due("10 not coupled is so", x.couple(-1), NO);
        due("10 no change", x.count(7), 0);
        due("10 were not", x.couple(0), NONE);
        due("10 so", x.couple(0), NO);
        due("10 another", x.couple(20), 0);
        due("10 as told", x.count(5), 20);
        due("10 no more", x.couple(-1), 20);
        due("10 none", x.count(5), NONE);
        due("10 again", x.couple(7), NONE);
        due("10 changes", x.count(7), 4);
    }

    private static void tick() {
        SwingCranes x = new SwingCranes();
        due("11 bad", x.tick(0), BAD);
        due("11 bad below", x.tick(-1), BAD);
        due("11 bad above", x.tick(61), BAD);
        due("11 no change", x.count(7), 0);
        due("11 most", x.tick(60), 0);
        due("11 ticks", x.count(6), 60);
        craneIs("11 still", x, 0, 100, ZERO, 30, 0, ZERO, ZERO, ZERO);
        x.command(0, 5);
        x.tick(1);
        due("11 by the most it changes", x.crane(0, 1), ZERO + 2);
        x.tick(1);
        due("11 again", x.crane(0, 1), ZERO + 4);
        x.tick(1);
        due("11 no more than its want", x.crane(0, 1), ZERO + 5);
        due("11 place", x.crane(0, 0), 111);
        x.command(0, -40);
        x.tick(60);
        due("11 to the end", x.crane(0, 0), 0);
        SwingCranes y = new SwingCranes();
        y.command(1, -40);
        y.tick(8);
        due("11 held to its limit", y.crane(1, 1), ZERO - 12);
    }

    private static void tickBrakes() {
        SwingCranes x = Check.laid("c0,9,30,0;c1,590,30,0;k3,40,6;");
        x.command(0, -10);
        due("11 room 9: 3 stops in 3, no brake", x.tick(1), 0);
        due("11 it goes 3", x.crane(0, 0), 6);
        due("11 room 6: 6 would stop in 9, 4 in 5", x.tick(1), 1);
        due("11 braked to 4", x.crane(0, 1), ZERO - 4);
        due("11 room 2: 7 held to 2", x.tick(1), 1);
        due("11 braked to 2", x.crane(0, 1), ZERO - 2);
        due("11 stands at 0", x.crane(0, 0), 0);
        due("11 room 0", x.tick(2), 2);
        due("11 stands", x.crane(0, 1), ZERO);
        x.command(1, 10);
        due("11 each counts", x.tick(3), 3 + 2);
        due("11 1 at its end", x.crane(1, 0), 600);
        SwingCranes y = Check.laid("c0,100,30,0;c1,145,30,0;");
        y.command(0, 9);
        y.command(1, -9);
        due("11 room 2 of 5 for each", y.tick(1), 0);
        due("11 0 goes 2", y.crane(0, 0), 102);
        due("11 1 goes 2", y.crane(1, 0), 143);
        due("11 1 is left, half of it is 0", y.tick(1), 2);
        due("11 0 stands", y.crane(0, 1), ZERO);
        due("11 free", y.count(9), 1);
        y.command(1, 9);
        due("11 away from the other 1 is free", y.tick(1), 1);
        due("11 1 goes", y.crane(1, 0), 145);
        due("11 0 has room 1 now, of 3 cut", y.tick(1), 1);
        due("11 0 goes 1", y.crane(0, 0), 103);
    }

    private static void tickHoists() {
        SwingCranes x = Check.laid("k2,12,3;c0,100,30,0;c1,500,30,0;");
        x.target(0, 32);
        x.target(1, 10);
        x.command(0, 5);
        x.tick(1);
        due("11 lowered while slow", x.crane(0, 2), 31);
        due("11 raised", x.crane(1, 2), 29);
        x.tick(1);
        due("11 4 is above 3 now", x.crane(0, 2), 31);
        x.command(0, 3);
        x.tick(1);
        due("11 3 is slow enough", x.crane(0, 2), 32);
        x.tick(5);
        due("11 no farther than told", x.crane(0, 2), 32);
        x.tick(40);
        due("11 down to 10", x.crane(1, 2), 10);
        SwingCranes y = Check.laid("k2,12,0;");
        y.target(0, 40);
        y.command(0, 1);
        y.tick(3);
        due("11 hoist 0 while it runs", y.crane(0, 2), 30);
        y.command(0, 0);
        y.tick(1);
        due("11 hoist 0 while it stands", y.crane(0, 2), 31);
        tickHoistsLevel();
    }

    private static void tickHoistsLevel() {
        SwingCranes x = Check.laid("c0,100,30,0;c1,500,40,0;");
        x.target(1, 45);
        x.couple(8);
        x.tick(1);
        due("11 apart 10, farther is held", x.crane(1, 2), 40);
        x.couple(11);
        x.tick(3);
        due("11 apart 11 is no more than 11", x.crane(1, 2), 41);
        x.couple(2);
        x.target(0, 20);
        x.tick(1);
        due("11 0 is held, for it looks first", x.crane(0, 2), 30);
        due("11 1 comes nearer though above the level", x.crane(1, 2), 40);
        x.tick(60);
        due("11 0 in the end", x.crane(0, 2), 20);
        due("11 1 in the end", x.crane(1, 2), 20);
        SwingCranes y = new SwingCranes();
        y.couple(0);
        y.target(0, 35);
        y.tick(4);
        due("11 level 0 holds 0 as 1 has not gone yet", y.crane(0, 2), 30);
        due("11 level 0 holds 1, too", y.crane(1, 2), 30);
        y.couple(1);
        y.tick(4);
        due("11 level 1 lets both: 0", y.crane(0, 2), 34);
        due("11 level 1 lets both: 1", y.crane(1, 2), 34);
    }

    private static void tickSwings() {
        SwingCranes x = new SwingCranes();
        x.command(0, 2);
        x.tick(1);
        craneIs("11 swing 1", x, 0, 102, ZERO + 2, 30, 0, ZERO - 8, ZERO - 8);
        x.tick(1);
        // 16 * -8 / 30 is -4.2, cut -4.
        craneIs("11 swing 2", x, 0, 104, ZERO + 2, 30, 0, ZERO - 12, ZERO - 4);
        x.tick(1);
        // 16 * -12 / 30 is -6.4, cut -6.
        craneIs("11 swing 3", x, 0, 106, ZERO + 2, 30, 0, ZERO - 10, ZERO + 2);
        x.target(0, 10);
        x.tick(1);
        // By the rope ahead of the tick: 16 * -10 / 30 is -5.3, cut -5.
        craneIs("11 swing 4", x, 0, 108, ZERO + 2, 29, 0, ZERO - 3, ZERO + 7);
        x.tick(1);
        // 16 * -3 / 29 is -1.7, cut -1.
        craneIs("11 swing 5", x, 0, 110, ZERO + 2, 28, 0, ZERO + 5, ZERO + 8);
        x.command(0, 1);
        x.tick(1);
        // 16 * 5 / 28 is 2.9, cut 2; 1 slower is 4 more.
        craneIs("11 swing 6", x, 0, 111, ZERO + 1, 27, 0, ZERO + 15, ZERO + 10);
    }

    private static void tickHasAnEnd() {
        SwingCranes x = new SwingCranes();
        for (int i = 0; i < 166; i++) {
            x.tick(60);
        }
        due("11 9960 so far", x.count(6), 9960);
        due("11 40 would be too many", x.tick(40), NO);
        due("11 bad before no", x.tick(61), BAD);
        due("11 39 go", x.tick(39), 0);
        due("11 one more doesn't", x.tick(1), NO);
        due("11 ticks", x.count(6), 9999);
        due("11 ahead goes on", x.ahead(60, 0, 0), 100);
        due("11 spots", x.spot(0, 0, 2), 9999);
        due("11 undone", x.undo(), 3);
        due("11 room again", x.tick(39), 0);
    }

    private static void undo() {
        SwingCranes x = new SwingCranes();
        due("12 nothing", x.undo(), NO);
        x.command(0, 10);
        x.load(1, 50);
        x.target(1, 40);
        x.tick(60);
        x.couple(4);
        due("12 four can be", x.count(7), 4);
        due("12 coupled", x.undo(), 3);
        due("12 coupled no more", x.count(5), NONE);
        due("12 ticks", x.undo(), 2);
        due("12 ticks: place", x.crane(0, 0), 100);
        due("12 ticks: rope", x.crane(1, 2), 30);
        due("12 ticks: target stays", x.crane(1, 7), 40);
        due("12 ticks: step is there again", x.stepOf(0, 0, 1), ZERO + 10);
        due("12 ticks: ticks", x.count(6), 0);
        due("12 ticks: spots", x.spot(0, -1, 0), 0);
        due("12 ticks: been", x.been(0, 2, 3), 0);
        due("12 target", x.undo(), 1);
        due("12 target: as it was", x.crane(1, 7), 30);
        due("12 load", x.undo(), 0);
        due("12 load: as it was", x.crane(1, 3), 0);
        due("12 the command is too old", x.undo(), NO);
        due("12 the command stays", x.crane(0, 9), 1);
        x.tick(3);
        x.tick(1);
        due("12 spots ahead", x.spot(0, 0, 2), 4);
        due("12 one of two", x.undo(), 1);
        due("12 spots of one", x.spot(0, 0, 2), 3);
        x.shape(0, 3, 5);
        due("12 behind an undone one", x.count(7), 2);
        due("12 the shaped one", x.undo(), 1);
        due("12 steps gone", x.crane(0, 9), 0);
        due("12 ticks of one", x.count(6), 3);
        x.write('e');
        x.command(0, 41);
        x.target(0, 30);
        x.load(0, 0);
        x.ahead(9, 0, 0);
        x.best(0, 5, 0);
        x.quiet(0);
        due("12 these are no changes", x.count(7), 1);
        x.undo();
        due("12 the text stays", x.count(8), 1);
        due("12 all the way", x.count(6), 0);
        due("12 lay of a fault undoes nothing", x.lay(), NO);
        undoBringsAllBack();
    }

    private static void undoBringsAllBack() {
        SwingCranes x = Check.laid("c0,240,39,12;c1,505,21,34;");
        x.couple(20);
        x.target(1, 50);
        x.shape(0, -8, 17);
        x.tick(9);
        int[] before = Looks.at(x);
        x.tick(30);
        x.load(1, 78);
        x.command(1, 6);
        x.tick(5);
        for (int more = 3; more >= 0; more--) {
            due("12 four back", x.undo(), more);
        }
        Looks.alike("12 all back", Looks.at(x), before);
    }

    private static void crane() {
        SwingCranes x = Check.laid("c0,100,13,35;");
        for (int what = 0; what <= 12; what++) {
            due("13 bad crane", x.crane(2, what), BAD);
            due("13 bad crane below", x.crane(-1, what), BAD);
        }
        due("13 bad what", x.crane(0, 13), BAD);
        due("13 bad what below", x.crane(1, -1), BAD);
        x.command(0, -7);
        x.tick(2);
        x.target(0, 60);
        x.shape(0, 1, 4);
        // V -2, -4; R 8, 8 - 9 + 8 = 7; S 8, 15.
        craneIs("13", x, 0, 94, ZERO - 4, 13, 35, ZERO + 15, ZERO + 7, ZERO - 7, 60, 9, 2, 6, 3, 0);
        due("13 quiet is the other", x.crane(1, 12), 1);
        SwingCranes y = new SwingCranes();
        y.shape(0, 1, 3);
        due("13 a step to come is not quiet", y.crane(0, 12), 0);
        SwingCranes z = Check.laid("k1,1,0;c0,100,60,0;");
        z.command(0, 1);
        z.tick(1);
        z.command(0, 0);
        z.tick(1);
        // S -4, R -4; then R -4 + 1 + 4 = 1, S -3.
        craneIs("13 quiet just so", z, 0, 101, ZERO, 60, 0, ZERO - 3, ZERO + 1, ZERO, 60, 1, 0, 0, 7, 1);
    }

    private static void stepOf() {
        SwingCranes x = new SwingCranes();
        x.shape(1, -9, 6);
        due("14 first: in", x.stepOf(1, 0, 0), 1);
        due("14 first: by", x.stepOf(1, 0, 1), ZERO - 4);
        due("14 second: in", x.stepOf(1, 1, 0), 7);
        due("14 second: by", x.stepOf(1, 1, 1), ZERO - 5);
        due("14 not so many", x.stepOf(1, 2, 0), NONE);
        due("14 far from so many", x.stepOf(1, Integer.MAX_VALUE, 1), NONE);
        due("14 none of the other", x.stepOf(0, 0, 0), NONE);
        due("14 bad k", x.stepOf(1, -1, 0), BAD);
        due("14 bad what", x.stepOf(1, 0, 2), BAD);
        due("14 bad what below", x.stepOf(1, 0, -1), BAD);
        due("14 bad crane", x.stepOf(2, 0, 0), BAD);
        due("14 bad before none", x.stepOf(0, 5, 2), BAD);
        x.tick(1);
        due("14 the second is the first", x.stepOf(1, 0, 0), 6);
        due("14 by", x.stepOf(1, 0, 1), ZERO - 5);
        x.tick(5);
        due("14 the next", x.stepOf(1, 0, 0), 1);
        x.tick(1);
        due("14 gone", x.stepOf(1, 0, 0), NONE);
    }

    private static void stop() {
        SwingCranes x = new SwingCranes();
        due("15 bad", x.stop(41), BAD);
        due("15 bad below", x.stop(-41), BAD);
        due("15 bad far below", x.stop(Integer.MIN_VALUE), BAD);
        due("15 none", x.stop(0), 0);
        due("15 5 3 1", x.stop(5), 9);
        due("15 6 4 2", x.stop(-6), 12);
        SwingCranes y = Check.laid("k9,40,0;");
        due("15 40 31 22 13 4", y.stop(40), 110);
        due("15 9", y.stop(-9), 9);
        due("15 10 1", y.stop(10), 11);
        SwingCranes z = Check.laid("k1,40,0;");
        due("15 40 39 ..", z.stop(-40), 820);
    }

    private static void half() {
        SwingCranes x = new SwingCranes();
        due("16 bad", x.half(9), BAD);
        due("16 bad above", x.half(61), BAD);
        int[][] some = {{10, 3}, {14, 3}, {15, 4}, {25, 4}, {26, 5}, {40, 5}, {41, 6}, {57, 6}, {58, 7}, {60, 7}};
        for (int[] a : some) {
            due("16 half of " + a[0], x.half(a[0]), a[1]);
        }
    }

    private static void spot() {
        SwingCranes x = Check.laid("c0,48,19,0;c1,599,60,0;");
        due("17 bad crane", x.spot(2, 0, 0), BAD);
        due("17 bad k", x.spot(0, -2, 0), BAD);
        due("17 bad what", x.spot(0, 0, 3), BAD);
        due("17 bad what below", x.spot(0, 0, -1), BAD);
        due("17 bad what though how many", x.spot(0, -1, 3), BAD);
        due("17 none had", x.spot(0, -1, 2), 0);
        due("17 none", x.spot(0, 0, 0), NONE);
        due("17 bad before none", x.spot(0, 0, 9), BAD);
        x.command(0, 1);
        x.target(0, 21);
        x.tick(2);
        // At 49 with 20, at 50 with 21.
        due("17 two", x.spot(0, -1, 1), 2);
        spotIs(x, 0, 0, 0, 2, 1);
        spotIs(x, 0, 1, 1, 2, 1);
        spotIs(x, 1, 0, 11, 6, 2);
        x.command(0, -1);
        x.tick(1);
        x.tick(1);
        // 50 less 1 and less 1 more.
        spotIs(x, 0, 0, 0, 2, 3);
        due("17 still two", x.spot(0, -1, 0), 2);
        x.target(0, 19);
        x.tick(2);
        spotIs(x, 0, 2, 0, 1, 1);
        spotIs(x, 0, 0, 0, 2, 4);
        due("17 not four", x.spot(0, 3, 2), NONE);
        due("17 of the other one", x.spot(1, -1, 0), 1);
        x.target(0, 21);
        x.command(0, 2);
        x.tick(4);
        // Once more with 20 and 21 in block 0, then past 50: 1, 2, 2 and 2 more from 46.
        int blocks = x.spot(0, 0, 2) + x.spot(0, 1, 2) + x.spot(0, 2, 2);
        due("17 all ticks are in three spots", blocks, 10);
        spotIs(x, 0, 1, 1, 2, x.been(0, 1, 2));
        due("17 the second has more", x.spot(0, 1, 2) > 1 ? 1 : 0, 1);
    }

    private static void spotIs(SwingCranes x, int c, int k, int block, int floor, int ticks) {
        due("17 block of " + k, x.spot(c, k, 0), block);
        due("17 floor of " + k, x.spot(c, k, 1), floor);
        due("17 ticks of " + k, x.spot(c, k, 2), ticks);
    }

    private static void been() {
        SwingCranes x = new SwingCranes();
        int[][] wrong = {{2, 0, 0}, {-1, 0, 0}, {0, -1, 3}, {0, 100, 3}, {0, 2, -1}, {0, 2, 100}};
        for (int[] a : wrong) {
            due("18 bad " + a[0] + " " + a[1] + " " + a[2], x.been(a[0], a[1], a[2]), BAD);
        }
        due("18 not yet", x.been(0, 2, 3), 0);
        x.tick(7);
        due("18 there", x.been(0, 2, 3), 7);
        due("18 not beside", x.been(0, 3, 2), 0);
        due("18 the other elsewhere", x.been(1, 2, 3), 0);
        due("18 the other there", x.been(1, 10, 3), 7);
        due("18 farthest", x.been(0, 99, 99), 0);
        due("18 nearest", x.been(0, 0, 0), 0);
        due("18 another with the same sum", x.been(0, 1, 13), 0);
    }

    private static void ahead() {
        SwingCranes x = new SwingCranes();
        int[][] wrong = {{0, 0, 0}, {61, 0, 0}, {-1, 0, 0}, {1, 2, 0}, {1, -1, 0}, {1, 0, 6}, {1, 0, -1}};
        for (int[] a : wrong) {
            due("19 bad " + a[0] + " " + a[1] + " " + a[2], x.ahead(a[0], a[1], a[2]), BAD);
        }
        x.command(0, 2);
        x.target(0, 40);
        int[] two = {104, ZERO + 2, 32, ZERO - 12, 12, 0};
        int[] three = {106, ZERO + 2, 33, ZERO - 10, 12, 0};
        for (int what = 0; what <= 5; what++) {
            due("19 in two: " + what, x.ahead(2, 0, what), two[what]);
            due("19 in three: " + what, x.ahead(3, 0, what), three[what]);
        }
        due("19 nothing goes by", x.count(6), 0);
        due("19 no place", x.crane(0, 0), 100);
        due("19 the step is still to come", x.crane(0, 9), 1);
        due("19 no spot", x.spot(0, -1, 0), 0);
        due("19 no change", x.count(7), 2);
        due("19 the other", x.ahead(60, 1, 0), 500);
        x.tick(2);
        due("19 the greatest is behind a tick to come, not now", x.ahead(1, 0, 4), 10);
        SwingCranes y = Check.laid("c0,0,30,0;c1,600,30,0;");
        y.command(0, -9);
        due("19 braked", y.ahead(7, 0, 5), 7);
        due("19 the other isn't", y.ahead(7, 1, 5), 0);
    }

    private static void quiet() {
        SwingCranes x = new SwingCranes();
        due("20 bad", x.quiet(2), BAD);
        due("20 bad below", x.quiet(-1), BAD);
        due("20 now", x.quiet(0), 0);
        x.command(0, 12);
        due("20 the command 0 takes its steps", x.quiet(0), 0);
        due("20 they are there still", x.crane(0, 9), 1);
        SwingCranes y = Check.laid("k1,1,0;c0,100,60,0;");
        y.command(0, 1);
        y.tick(1);
        due("20 in one", y.quiet(0), 1);
        due("20 want stays", y.crane(0, 6), ZERO + 1);
        due("20 no change", y.count(7), 2);
        y.couple(9);
        due("20 the other is told likewise", y.quiet(1), 0);
        SwingCranes z = Check.laid("e999;g10;k1,40,0;c0,25,47,0;c1,989,30,0;");
        z.command(0, 9);
        z.tick(4);
        z.shape(0, 29, 0);
        z.target(0, 24);
        z.tick(19);
        due("20 not in 60, but in 61", z.quiet(0), NONE);
        z.command(0, 0);
        z.tick(1);
        due("20 in 60", z.quiet(0), 60);
        z.tick(60);
        due("20 and so it is", z.crane(0, 12), 1);
    }

    private static void best() {
        SwingCranes x = new SwingCranes();
        int[][] wrong = {{2, 0, 0}, {-1, 0, 0}, {0, 41, 0}, {0, -41, 0}, {0, 0, 2}, {0, 0, -1}};
        for (int[] a : wrong) {
            due("21 bad " + a[0] + " " + a[1] + " " + a[2], x.best(a[0], a[1], a[2]), BAD);
        }
        due("21 all alike: the lowest", x.best(0, 0, 0), 0);
        due("21 all alike: no swing", x.best(0, 0, 1), 0);
        bestIsBest(new SwingCranes(), 0, 8);
        SwingCranes y = Check.laid("c0,50,17,45;c1,300,55,3;k1,30,9;e700;");
        y.couple(5);
        y.command(0, 9);
        y.tick(13);
        bestIsBest(y, 0, -3);
        bestIsBest(y, 1, 20);
    }

    /** Tries all pauses by calls of their own, each undone. */
    private static void bestIsBest(SwingCranes x, int c, int w) {
        int lowest = 0;
        int least = Integer.MAX_VALUE;
        for (int p = 0; p <= 20; p++) {
            x.shape(c, w, p);
            x.tick(20);
            int greatest = x.ahead(40, c, 4);
            x.undo();
            x.undo();
            if (greatest < least) {
                least = greatest;
                lowest = p;
            }
        }
        int changes = x.count(7);
        int ticks = x.count(6);
        due("21 pause of " + c + " for " + w, x.best(c, w, 0), lowest);
        due("21 swing of " + c + " for " + w, x.best(c, w, 1), least);
        due("21 no change", x.count(7), changes);
        due("21 no tick", x.count(6), ticks);
    }

    private static void count() {
        SwingCranes x = Check.laid("e700;g50;k3,13,7;");
        due("22 bad", x.count(10), BAD);
        due("22 bad below", x.count(-1), BAD);
        x.command(0, 3);
        x.couple(0);
        x.tick(2);
        countIs("22", x, 700, 50, 3, 13, 7, 0, 2, 3, 17, 350 - 6);
        x.wipe();
        due("22 no letters", x.count(8), 0);
        due("22 the rest as it was", x.count(0), 700);
    }
}
