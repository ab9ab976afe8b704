/** THE TEXT, its ITEMS, FAULT and LAID: a test for each boundary that the document names. */
final class TextEdgeTest {
    private static final int NO = -2, FULL = -3, NONE = -4;
    /** An item with % for one number, and the least and the greatest that this number may be. */
    private static final String[] NUMBERS = {"e%; 200 999", "g%; 10 99",
        "c%,100,30,0; 0 1", "c0,%,30,0; 0 999", "c0,100,%,0; 10 60", "c0,100,30,%; 0 99",
        "c1,%,30,0; 0 999", "c1,500,%,0; 10 60", "c1,500,30,%; 0 99",
        "k%,12,6; 1 9", "k2,%,6; 1 40", "k2,12,%; 0 40"};

    private TextEdgeTest() {
    }

    static void runAll() {
        theTextHasLetters();
        anEmptyText();
        aFullText();
        eachNumberInItsRange();
        eachNumberHasOneToThreeFigures();
        itemsOneBehindTheOther();
        tooFewOrTooManyNumbers();
        withoutTheirSemicolon();
        theFirstFaultOfSeveral();
        theLastOfASortCounts();
        withoutAnItem();
        bothAtPlacesToEnd();
        gapOrMoreAbove();
        faultChangesNothing();
        aTextReadAheadIsForgotten();
        wipedLettersAreGone();
        theTextStaysWhenLaid();
    }

    private static void due(String what, int got, int want) {
        Check.due("text edge: " + what, got, want);
    }

    /** The fault of the text alone, behind good items, and ahead of another fault. */
    private static void faultIs(String text, boolean isSo) {
        String[] ahead = {"", "e300;", "k2,12,6;c1,500,30,0;"};
        for (String first : ahead) {
            SwingCranes x = new SwingCranes();
            Check.writeAll(x, first + text);
            due("fault of " + first + text, x.fault(), isSo ? NONE : first.length());
            if (!isSo) {
                due("lay of " + first + text, x.lay(), NO);
                Check.writeAll(x, "x;");
                due("fault of " + first + text + "x;", x.fault(), first.length());
            }
        }
    }

    private static void theTextHasLetters() {
        for (int letter = 32; letter <= 126; letter++) {
            SwingCranes x = new SwingCranes();
            due("write(" + letter + ")", x.write(letter), 1);
            due("fault of letter " + letter, x.fault(), 0);
            due("wipe of letter " + letter, x.wipe(), 1);
        }
    }

    private static void anEmptyText() {
        SwingCranes x = new SwingCranes();
        due("fault of none", x.fault(), NONE);
        due("wipe of none", x.wipe(), 0);
        due("lay of none", x.lay(), 600);
        due("letters of none", x.count(8), 0);
        Check.writeAll(x, "e1;");
        due("fault ahead of wiping", x.fault(), 0);
        due("wiped", x.wipe(), 3);
        due("fault of wiped", x.fault(), NONE);
        due("lay of wiped", x.lay(), 600);
    }

    private static String times(String item, int n) {
        StringBuilder all = new StringBuilder();
        for (int i = 0; i < n; i++) {
            all.append(item);
        }
        return all.toString();
    }

    private static void aFullText() {
        String most = times("e300;", 39);
        SwingCranes x = new SwingCranes();
        Check.writeAll(x, most + "e99");
        due("letter 199", x.write('9'), 199);
        due("without the last ;", x.fault(), 195);
        due("letter 200", x.write(';'), 200);
        due("200 letters", x.fault(), NONE);
        due("letter 201", x.write('x'), FULL);
        due("letter 201 is not there", x.fault(), NONE);
        due("still 200", x.count(8), 200);
        due("the last item of 200 letters counts", x.lay(), 999);
        due("200 stay when laid", x.count(8), 200);
        due("full still", x.write('e'), FULL);
        due("wiped", x.wipe(), 200);
        due("room again", x.write('e'), 1);
        SwingCranes y = new SwingCranes();
        Check.writeAll(y, most + "g40;" + "e");
        due("the last letter is a fault", y.fault(), 199);
        SwingCranes z = new SwingCranes();
        Check.writeAll(z, times("x", 200));
        due("the first of 200 letters is a fault", z.fault(), 0);
    }

    private static void eachNumberInItsRange() {
        for (String told : NUMBERS) {
            String[] parts = told.split(" ");
            int least = Integer.parseInt(parts[1]);
            int most = Integer.parseInt(parts[2]);
            faultIs(parts[0].replace("%", "" + least), true);
            faultIs(parts[0].replace("%", "" + most), true);
            faultIs(parts[0].replace("%", "" + (most + 1)), false);
            if (least > 0) {
                faultIs(parts[0].replace("%", "" + (least - 1)), false);
            }
            faultIs(parts[0].replace("%", "-" + least), false);
            faultIs(parts[0].replace("%", "+" + most), false);
        }
    }

    private static void eachNumberHasOneToThreeFigures() {
        for (String told : NUMBERS) {
            String[] parts = told.split(" ");
            int most = Integer.parseInt(parts[2]);
            String three = (most < 10 ? "00" : most < 100 ? "0" : "") + most;
            faultIs(parts[0].replace("%", three), true);
            faultIs(parts[0].replace("%", "0" + three), false);
            faultIs(parts[0].replace("%", "000" + three), false);
            faultIs(parts[0].replace("%", ""), false);
            faultIs(parts[0].replace("%", " " + most), false);
            faultIs(parts[0].replace("%", most + " "), false);
            faultIs(parts[0].replace("%", most + "."), false);
            // The letters on both sides of the figures.
            faultIs(parts[0].replace("%", most + "/"), false);
            faultIs(parts[0].replace("%", most + ":"), false);
            faultIs(parts[0].replace("%", "/"), false);
            faultIs(parts[0].replace("%", ":"), false);
        }
        SwingCranes x = Check.laid("c0,5,010,7;k009,010,000;");
        due("one figure", x.crane(0, 0), 5);
        due("a 0 ahead", x.crane(0, 2), 10);
        due("two 0 ahead", x.count(2), 9);
        due("a 0 ahead, top", x.count(3), 10);
        due("all 0", x.count(4), 0);
        SwingCranes y = Check.laid("c001,400,30,0;c000,001,30,0;");
        due("crane 001", y.crane(1, 0), 400);
        due("crane 000", y.crane(0, 0), 1);
    }

    private static void itemsOneBehindTheOther() {
        String[] notSo = {";", ";e300;", " e300;", "e300; ", "e300;;", "e300;\"", "E300;", "G40;", "C0,100,30,0;",
            "K2,12,6;", "a300;", "f300;", "h40;", "d2;", "j2,12,6;", "l2,12,6;", "b0,100,30,0;", "300;", ",;"};
        for (String text : notSo) {
            SwingCranes x = new SwingCranes();
            Check.writeAll(x, text);
            due("fault of " + text, x.fault(), text.startsWith("e300;") ? 5 : 0);
        }
        due("one of each sort", Check.laid("g10;k1,1,0;c1,400,10,0;e400;c0,0,10,0;").count(0), 400);
    }

    private static void tooFewOrTooManyNumbers() {
        String[] notSo = {"e;", "e300,300;", "e300,;", "e,300;", "g;", "g40,40;", "g40,;", "c;", "c0;", "c0,100;",
            "c0,100,30;", "c0,100,30,;", "c0,100,,0;", "c0,,30,0;", "c,100,30,0;", "c0,100,30,0,0;", "c0,100,30,0,;",
            "c0,100,30,0,0,0;", "k;", "k2;", "k2,12;", "k2,12,;", "k2,,6;", "k,12,6;", "k2,12,6,6;", "k2,12,6,;"};
        for (String text : notSo) {
            faultIs(text, false);
        }
    }

    private static void withoutTheirSemicolon() {
        String[] items = {"e300;", "g40;", "c0,100,30,0;", "c1,500,30,0;", "k2,12,6;"};
        for (String item : items) {
            faultIs(item, true);
            String bare = item.substring(0, item.length() - 1);
            faultIs(bare, false);
            faultIs(bare + "g40;", false);
            faultIs(bare + ",", false);
            faultIs(bare + ":", false);
            for (int letters = 1; letters < bare.length(); letters++) {
                faultIs(item.substring(0, letters), false);
            }
        }
        faultIs("c0;100;30;0;", false);
        faultIs("c0,100;30,0;", false);
        faultIs("k2;12;6;", false);
        faultIs("k2,12;6;", false);
    }

    private static void theFirstFaultOfSeveral() {
        SwingCranes x = new SwingCranes();
        Check.writeAll(x, "e600;c0,100,30,0;k0,12,6;g9;e;");
        due("the first of three", x.fault(), 17);
        SwingCranes y = new SwingCranes();
        Check.writeAll(y, "e600;e199;e600;");
        due("a wrong one between right ones of its sort", y.fault(), 5);
        due("no lay, though the last one is right", y.lay(), NO);
        SwingCranes z = new SwingCranes();
        Check.writeAll(z, "c0,100,30,0;c1,500,61,0;");
        due("of its last number but one, its first letter is told", z.fault(), 12);
    }

    private static void theLastOfASortCounts() {
        SwingCranes x = Check.laid("e300;g20;k9,40,40;c0,7,11,3;c1,290,50,9;e700;g55;k3,8,5;c1,650,41,20;c0,60,17,31;");
        int[] counts = {700, 55, 3, 8, 5};
        for (int what = 0; what < counts.length; what++) {
            due("the last counts: count(" + what + ")", x.count(what), counts[what]);
        }
        int[] places = {60, 650};
        int[] ropes = {17, 41};
        int[] loads = {31, 20};
        for (int c = 0; c < 2; c++) {
            due("the last counts: place of " + c, x.crane(c, 0), places[c]);
            due("the last counts: rope of " + c, x.crane(c, 2), ropes[c]);
            due("the last counts: load of " + c, x.crane(c, 3), loads[c]);
        }
        SwingCranes y = Check.laid("c0,7,11,3;c0,8,12,4;c0,9,13,5;");
        due("of three the last", y.crane(0, 0), 9);
        due("the other one is as without", y.crane(1, 0), 500);
        SwingCranes z = Check.laid("c0,9,60,99;k9,40,40;c0,0,10,0;k1,1,0;");
        itemIs("all numbers of the last: ", z, 3, new int[] {0, 10, 0});
        itemIs("all numbers of the last: ", z, 2, new int[] {1, 1, 0});
        due("greater ones ahead don't count", Check.laid("e999;e601;").count(0), 601);
        due("a first c that is not to be LAID doesn't count", Check.laid("c1,100,30,0;c1,140,30,0;").crane(1, 0), 140);
    }

    private static void withoutAnItem() {
        String[] items = {"e700;", "g55;", "k3,8,5;", "c0,60,17,31;", "c1,650,41,20;"};
        int[][] told = {{700}, {55}, {3, 8, 5}, {60, 17, 31}, {650, 41, 20}};
        int[][] without = {{600}, {40}, {2, 12, 6}, {100, 30, 0}, {500, 30, 0}};
        for (int left = 0; left < items.length; left++) {
            SwingCranes x = Check.laid("e999;g99;k9,40,40;c0,1,10,99;c1,999,60,99;");
            x.wipe();
            StringBuilder text = new StringBuilder();
            for (int i = 0; i < items.length; i++) {
                text.append(i == left ? "" : items[i]);
            }
            // Crane 1 at 650 needs an end behind it.
            Check.writeAll(x, left == 0 ? text.toString().replace("650", "599") : text.toString());
            due("lay of " + text, x.lay(), left == 0 ? 600 : 700);
            for (int i = 0; i < items.length; i++) {
                int[] want = (i == left ? without : told)[i].clone();
                if (left == 0 && i == 4) {
                    want[0] = 599;
                }
                itemIs("without " + items[left] + ": ", x, i, want);
            }
        }
    }

    private static void itemIs(String when, SwingCranes x, int item, int[] want) {
        int[][] got = {{x.count(0)}, {x.count(1)}, {x.count(2), x.count(3), x.count(4)},
            {x.crane(0, 0), x.crane(0, 2), x.crane(0, 3)}, {x.crane(1, 0), x.crane(1, 2), x.crane(1, 3)}};
        for (int i = 0; i < want.length; i++) {
            due(when + "item " + item + ", number " + i, got[item][i], want[i]);
        }
    }

    private static void layIs(String text, int want) {
        SwingCranes x = new SwingCranes();
        Check.writeAll(x, text);
        due("no fault of " + text, x.fault(), NONE);
        due("lay of " + text, x.lay(), want);
    }

    private static void bothAtPlacesToEnd() {
        layIs("c1,600,30,0;", 600);
        layIs("c1,601,30,0;", NO);
        layIs("e999;c1,999,30,0;", 999);
        layIs("e998;c1,999,30,0;", NO);
        layIs("e200;c1,200,30,0;", 200);
        layIs("e200;c1,201,30,0;", NO);
        layIs("e500;", 500);
        layIs("e499;", NO);
        layIs("c0,0,30,0;", 600);
        layIs("c0,601,30,0;c1,700,30,0;", NO);
        layIs("c0,999,30,0;", NO);
    }

    private static void gapOrMoreAbove() {
        layIs("c1,140,30,0;", 600);
        layIs("c1,139,30,0;", NO);
        layIs("c0,460,30,0;", 600);
        layIs("c0,461,30,0;", NO);
        layIs("g10;c0,500,30,0;c1,510,30,0;", 600);
        layIs("g10;c0,500,30,0;c1,509,30,0;", NO);
        layIs("g99;c0,0,30,0;c1,99,30,0;", 600);
        layIs("g99;c0,0,30,0;c1,98,30,0;", NO);
        layIs("g41;c1,140,30,0;", NO);
        layIs("c0,100,30,0;c1,100,30,0;", NO);
        layIs("c0,140,30,0;c1,100,30,0;", NO);
        layIs("c0,500,30,0;c1,100,30,0;", NO);
        due("places free between both, gap apart", Check.laid("c1,140,30,0;").count(9), 0);
        due("places free between both, one more", Check.laid("c1,141,30,0;").count(9), 1);
    }

    private static void faultChangesNothing() {
        SwingCranes x = Check.laid("e700;g50;k3,13,7;");
        x.command(0, 40);
        Check.writeAll(x, "e300;g10;k9,40,40;");
        due("no fault", x.fault(), NONE);
        due("fault again", x.fault(), NONE);
        int[] counts = {700, 50, 3, 13, 7, NONE, 0, 1, 35, 350};
        for (int what = 0; what < counts.length; what++) {
            due("count(" + what + ") behind fault", x.count(what), counts[what]);
        }
        x.tick(9);
        due("the speed behind fault", x.crane(0, 1), SwingCranes.ZERO + 13);
        due("stop behind fault", x.stop(6), 9);
    }

    private static void aTextReadAheadIsForgotten() {
        SwingCranes x = new SwingCranes();
        for (int i = 0; i < 3; i++) {
            Check.writeAll(x, "e999;g99;k9,40,40;c0,1,10,99;c1,998,60,98;");
            due("read", x.fault(), NONE);
            x.wipe();
            due("laid without", x.lay(), 600);
            int[][] without = {{600}, {40}, {2, 12, 6}, {100, 30, 0}, {500, 30, 0}};
            for (int item = 0; item < without.length; item++) {
                itemIs("read, then wiped: ", x, item, without[item]);
            }
            Check.writeAll(x, "e999;g99;k9,40,40;c0,1,10,99;c1,998,60,98;k0,0,0;");
            due("not laid", x.lay(), NO);
            x.wipe();
        }
    }

    /** Each item wiped, then written anew but for its last letters, which are not there any more. */
    private static void wipedLettersAreGone() {
        String[] items = {"e300;", "g40;", "c0,100,30,0;", "c1,500,30,0;", "k2,12,6;"};
        for (String item : items) {
            for (int letters = 1; letters < item.length(); letters++) {
                SwingCranes x = new SwingCranes();
                Check.writeAll(x, item + "g50;");
                due("not yet wiped, " + item, x.fault(), NONE);
                x.wipe();
                Check.writeAll(x, item.substring(0, letters));
                due("wiped, then " + item.substring(0, letters), x.fault(), 0);
            }
        }
        SwingCranes y = new SwingCranes();
        Check.writeAll(y, "g50;x");
        y.wipe();
        due("a fault wiped", y.fault(), NONE);
        Check.writeAll(y, "g60;");
        due("a fault behind what is written anew", y.fault(), NONE);
        due("laid", y.lay(), 600);
        due("as written anew", y.count(1), 60);
    }

    private static void theTextStaysWhenLaid() {
        SwingCranes x = Check.laid("e700;");
        due("letters", x.count(8), 5);
        Check.writeAll(x, "e800;");
        due("it goes on", x.count(8), 10);
        due("laid again", x.lay(), 800);
        due("and again", x.lay(), 800);
        due("letters still", x.count(8), 10);
        Check.writeAll(x, "e");
        due("not laid", x.lay(), NO);
        due("it stays at NO, too", x.count(8), 11);
        due("and its fault", x.fault(), 10);
        due("wiped", x.wipe(), 11);
        due("the END stays when wiped", x.count(0), 800);
    }
}
