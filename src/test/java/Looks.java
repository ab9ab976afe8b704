/**
 * All that can be looked at in an object but how many changes can be undone, in so few calls that an object can
 * be looked at behind each of four undone changes and is called no more often than the document promises.
 */
final class Looks {
    private static final int OF_A_CRANE = 29;
    /** Looks from this one on try ahead, so that all that a change changes may show in them. */
    static final int AHEAD = 68;

    private Looks() {
    }

    static int ofCrane(int c, int what) {
        return c * OF_A_CRANE + what;
    }

    static int ofStep(int c, int k, int what) {
        return c * OF_A_CRANE + 13 + 5 * k + what;
    }

    static int ofCount(int what) {
        return 2 * OF_A_CRANE + (what > 7 ? what - 1 : what);
    }

    static int ofFault() {
        return AHEAD - 1;
    }

    static int[] at(SwingCranes x) {
        int[] looks = new int[73];
        int n = 0;
        for (int c = 0; c < 2; c++) {
            for (int what = 0; what <= 12; what++) {
                looks[n++] = x.crane(c, what);
            }
            for (int k = 0; k < 3; k++) {
                looks[n++] = x.stepOf(c, k, 0);
                looks[n++] = x.stepOf(c, k, 1);
                looks[n++] = x.spot(c, k, 0);
                looks[n++] = x.spot(c, k, 1);
                looks[n++] = x.spot(c, k, 2);
            }
            looks[n++] = x.spot(c, -1, 0);
        }
        for (int what = 0; what <= 9; what++) {
            if (what != 7) {
                looks[n++] = x.count(what);
            }
        }
        looks[n++] = x.fault();
        looks[n++] = x.ahead(60, 0, 3);
        looks[n++] = x.ahead(60, 1, 3);
        looks[n++] = x.ahead(7, 0, 4);
        looks[n++] = x.ahead(7, 1, 0);
        return looks;
    }

    static void alike(String when, int[] got, int[] want) {
        for (int i = 0; i < want.length; i++) {
            Check.due(when + ", look " + i, got[i], want[i]);
        }
    }
}
