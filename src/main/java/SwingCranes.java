/** Two cranes on one beam whose loads swing out; README.md tells how to use it. */
public final class SwingCranes {
    public static final int BAD = -1, NO = -2, FULL = -3, NONE = -4, ZERO = 100000;

    private static final int LONGEST_TEXT = 200;
    private static final int MOST_FIGURES = 3;
    private static final int MOST_SPEED = 40;
    private static final int LEAST_ROPE = 10;
    private static final int MOST_ROPE = 60;
    private static final int MOST_LOAD = 99;
    private static final int MOST_PAUSE = 20;
    private static final int MOST_LEVEL = 20;
    private static final int MOST_TICKS_AT_ONCE = 60;
    private static final int MOST_TICKS = 9999;
    private static final int MOST_SWING = 9999;
    private static final int FIRST_TICK_JUDGED = 21;
    private static final int MOST_UNDONE = 4;
    private static final int MOST_SPOT_NUMBER = 99;

    private final Text text;
    private final Pair trial;
    private Layout rules;
    private Layout draft;
    private Story now;
    private Story firstBack;
    private Story secondBack;
    private Story thirdBack;
    private Story fourthBack;
    private int undoable;

    public SwingCranes() {
        text = new Text();
        trial = new Pair();
        rules = new Layout();
        draft = new Layout();
        now = new Story();
        firstBack = new Story();
        secondBack = new Story();
        thirdBack = new Story();
        fourthBack = new Story();
        now.begin(rules);
    }

    // ---- told

    public int write(int letter) {
        if (!isWithin(letter, 32, 126)) {
            return BAD;
        }
        if (text.isFull()) {
            return FULL;
        }
        text.append((char) letter);
        return text.length;
    }

    public int wipe() {
        int was = text.length;
        text.length = 0;
        return was;
    }

    public int fault() {
        return text.readInto(draft);
    }

    public int lay() {
        if (text.readInto(draft) != NONE || !draft.holdsBoth()) {
            return NO;
        }
        Layout read = draft;
        draft = rules;
        rules = read;
        now.begin(rules);
        undoable = 0;
        return rules.end;
    }

    // ---- commands

    public int command(int c, int w) {
        if (!isCrane(c) || !isSpeed(w)) {
            return BAD;
        }
        keepForUndo();
        return now.pair.tellAtOnce(c, w);
    }

    public int shape(int c, int w, int pause) {
        if (!isCrane(c) || !isSpeed(w) || !isWithin(pause, -1, MOST_PAUSE)) {
            return BAD;
        }
        keepForUndo();
        return now.pair.tellByHalves(c, w, pause);
    }

    public int target(int c, int l) {
        if (!isCrane(c) || !isRope(l)) {
            return BAD;
        }
        if (now.pair.aimsAt(c, l)) {
            return NO;
        }
        keepForUndo();
        int was = now.pair.side(c).target;
        now.pair.aim(c, l);
        return was;
    }

    public int load(int c, int m) {
        if (!isCrane(c) || !isWithin(m, 0, MOST_LOAD)) {
            return BAD;
        }
        int was = now.pair.side(c).load;
        if (was == m) {
            return NO;
        }
        keepForUndo();
        now.pair.side(c).load = m;
        return was;
    }

    public int couple(int level) {
        if (!isWithin(level, -1, MOST_LEVEL)) {
            return BAD;
        }
        int was = now.pair.level;
        int told = level < 0 ? NONE : level;
        if (was == told) {
            return NO;
        }
        keepForUndo();
        now.pair.level = told;
        return was;
    }

    public int tick(int n) {
        if (!isWithin(n, 1, MOST_TICKS_AT_ONCE)) {
            return BAD;
        }
        if (now.ticks + n > MOST_TICKS) {
            return NO;
        }
        keepForUndo();
        int braked = 0;
        for (int i = 0; i < n; i++) {
            braked += now.goOn(rules);
        }
        return braked;
    }

    public int undo() {
        if (undoable < 1) {
            return NO;
        }
        Story undone = now;
        now = firstBack;
        firstBack = secondBack;
        secondBack = thirdBack;
        thirdBack = fourthBack;
        fourthBack = undone;
        undoable--;
        return undoable;
    }

    // ---- looked at

    public int crane(int c, int what) {
        if (!isCrane(c)) {
            return BAD;
        }
        Crane it = now.pair.side(c);
        switch (what) {
            case 0: return it.place;
            case 1: return it.speed + ZERO;
            case 2: return it.rope;
            case 3: return it.load;
            case 4: return it.swing + ZERO;
            case 5: return it.rate + ZERO;
            case 6: return it.want + ZERO;
            case 7: return it.target;
            case 8: return it.limit(rules);
            case 9: return it.stepsToCome();
            case 10: return wayToStop(it.speed, rules.change);
            case 11: return halfSwing(it.rope);
            case 12: return it.isQuiet() ? 1 : 0;
            default: return BAD;
        }
    }

    public int stepOf(int c, int k, int what) {
        if (!isCrane(c) || k < 0 || !isWithin(what, 0, 1)) {
            return BAD;
        }
        Crane it = now.pair.side(c);
        if (k >= it.stepsToCome()) {
            return NONE;
        }
        return what == 0 ? it.stepIn(k) : it.stepBy(k) + ZERO;
    }

    public int stop(int v) {
        return isSpeed(v) ? wayToStop(v, rules.change) : BAD;
    }

    public int half(int l) {
        return isRope(l) ? halfSwing(l) : BAD;
    }

    public int spot(int c, int k, int what) {
        if (!isCrane(c) || k < -1 || !isWithin(what, 0, 2)) {
            return BAD;
        }
        Spots had = now.spotsOf(c);
        if (k == -1) {
            return had.many;
        }
        if (k >= had.many) {
            return NONE;
        }
        switch (what) {
            case 0: return had.blockAt(k);
            case 1: return had.floorAt(k);
            default: return had.ticksAt(k);
        }
    }

    public int been(int c, int x, int l) {
        if (!isCrane(c) || !isWithin(x, 0, MOST_SPOT_NUMBER) || !isWithin(l, 0, MOST_SPOT_NUMBER)) {
            return BAD;
        }
        return now.spotsOf(c).ticksIn(x, l);
    }

    // ---- ahead

    public int ahead(int n, int c, int what) {
        if (!isWithin(n, 1, MOST_TICKS_AT_ONCE) || !isCrane(c) || !isWithin(what, 0, 5)) {
            return BAD;
        }
        trial.copyFrom(now.pair);
        Crane it = trial.side(c);
        int greatest = 0;
        int braked = 0;
        for (int i = 0; i < n; i++) {
            trial.goOn(rules);
            greatest = Math.max(greatest, Math.abs(it.swing));
            braked += it.braked ? 1 : 0;
        }
        switch (what) {
            case 0: return it.place;
            case 1: return it.speed + ZERO;
            case 2: return it.rope;
            case 3: return it.swing + ZERO;
            case 4: return greatest;
            default: return braked;
        }
    }

    public int quiet(int c) {
        if (!isCrane(c)) {
            return BAD;
        }
        trial.copyFrom(now.pair);
        trial.tellAtOnce(c, 0);
        Crane it = trial.side(c);
        for (int gone = 0; gone < MOST_TICKS_AT_ONCE; gone++) {
            if (it.isQuiet()) {
                return gone;
            }
            trial.goOn(rules);
        }
        return it.isQuiet() ? MOST_TICKS_AT_ONCE : NONE;
    }

    public int best(int c, int w, int what) {
        if (!isCrane(c) || !isSpeed(w) || !isWithin(what, 0, 1)) {
            return BAD;
        }
        int bestPause = 0;
        int least = swingWithPause(c, w, 0);
        for (int pause = 1; pause <= MOST_PAUSE; pause++) {
            int greatest = swingWithPause(c, w, pause);
            if (greatest < least) {
                least = greatest;
                bestPause = pause;
            }
        }
        return what == 0 ? bestPause : least;
    }

    public int count(int what) {
        switch (what) {
            case 0: return rules.end;
            case 1: return rules.gap;
            case 2: return rules.change;
            case 3: return rules.top;
            case 4: return rules.hoist;
            case 5: return now.pair.level;
            case 6: return now.ticks;
            case 7: return undoable;
            case 8: return text.length;
            case 9: return now.pair.freeBetween(rules);
            default: return BAD;
        }
    }

    // ---- behind the face

    /** The stories are turned round and not made anew, so that no call makes an object. */
    private void keepForUndo() {
        Story oldest = fourthBack;
        fourthBack = thirdBack;
        thirdBack = secondBack;
        secondBack = firstBack;
        firstBack = oldest;
        firstBack.copyFrom(now);
        undoable = Math.min(undoable + 1, MOST_UNDONE);
    }

    private int swingWithPause(int c, int w, int pause) {
        trial.copyFrom(now.pair);
        trial.tellByHalves(c, w, pause);
        Crane it = trial.side(c);
        int greatest = 0;
        for (int tick = 1; tick <= MOST_TICKS_AT_ONCE; tick++) {
            trial.goOn(rules);
            if (tick >= FIRST_TICK_JUDGED) {
                greatest = Math.max(greatest, Math.abs(it.swing));
            }
        }
        return greatest;
    }

    private static boolean isWithin(int number, int least, int most) {
        return number >= least && number <= most;
    }

    private static boolean isCrane(int c) {
        return c == 0 || c == 1;
    }

    private static boolean isSpeed(int v) {
        return isWithin(v, -MOST_SPEED, MOST_SPEED);
    }

    private static boolean isRope(int l) {
        return isWithin(l, LEAST_ROPE, MOST_ROPE);
    }

    private static int keptWithin(int number, int most) {
        return Math.max(-most, Math.min(number, most));
    }

    /** Summed up at once and not part by part, since braking tries many speeds in every tick. */
    private static int wayToStop(int speed, int change) {
        if (change < 1) {
            return 0;
        }
        int size = Math.abs(speed);
        int parts = (size + change - 1) / change;
        return parts * size - change * parts * (parts - 1) / 2;
    }

    private static int halfSwing(int rope) {
        int h = 1;
        while (h < MOST_ROPE && 8 * h * h < 5 * rope) {
            h++;
        }
        return h;
    }

    /** What is told in letters, and how far reading it has come. */
    private static final class Text {
        final char[] letters = new char[LONGEST_TEXT];
        int length;
        int at;

        boolean isFull() {
            return length >= LONGEST_TEXT;
        }

        void append(char letter) {
            if (length >= 0 && length < letters.length) {
                letters[length] = letter;
                length++;
            }
        }

        /** Tells the layout what the items say; answers where the first wrong one begins, or NONE. */
        int readInto(Layout layout) {
            layout.setUsual();
            at = 0;
            for (int item = 0; item < LONGEST_TEXT && at < length; item++) {
                int begin = at;
                if (!readItem(layout)) {
                    return begin;
                }
            }
            return NONE;
        }

        boolean readItem(Layout layout) {
            int sort = letterAt(at);
            at++;
            switch (sort) {
                case 'e': return readEnd(layout);
                case 'g': return readGap(layout);
                case 'c': return readStart(layout);
                case 'k': return readDrive(layout);
                default: return false;
            }
        }

        boolean readEnd(Layout layout) {
            layout.end = readNumber(';');
            return isWithin(layout.end, 200, 999);
        }

        boolean readGap(Layout layout) {
            layout.gap = readNumber(';');
            return isWithin(layout.gap, 10, 99);
        }

        boolean readStart(Layout layout) {
            int c = readNumber(',');
            if (!isCrane(c)) {
                return false;
            }
            Start start = c == 0 ? layout.left : layout.right;
            start.place = readNumber(',');
            start.rope = readNumber(',');
            start.load = readNumber(';');
            return isWithin(start.place, 0, 999) && isRope(start.rope) && isWithin(start.load, 0, MOST_LOAD);
        }

        boolean readDrive(Layout layout) {
            layout.change = readNumber(',');
            layout.top = readNumber(',');
            layout.hoist = readNumber(';');
            return isWithin(layout.change, 1, 9) && isWithin(layout.top, 1, MOST_SPEED)
                && isWithin(layout.hoist, 0, MOST_SPEED);
        }

        /** A number and the mark behind it; NONE, which is in no range, if they do not stand there. */
        int readNumber(char mark) {
            int number = 0;
            int figures = 0;
            while (figures < MOST_FIGURES && isWithin(letterAt(at), '0', '9')) {
                number = 10 * number + letterAt(at) - '0';
                figures++;
                at++;
            }
            boolean isMarked = letterAt(at) == mark;
            at++;
            return figures > 0 && isMarked ? number : NONE;
        }

        int letterAt(int place) {
            if (place < 0 || place >= length || place >= letters.length) {
                return NONE;
            }
            return letters[place];
        }
    }

    /** Where a crane stands when the text is laid. */
    private static final class Start {
        int place;
        int rope;
        int load;

        void set(int place, int rope, int load) {
            this.place = place;
            this.rope = rope;
            this.load = load;
        }
    }

    /** What a text tells. */
    private static final class Layout {
        int end;
        int gap;
        int change;
        int top;
        int hoist;
        final Start left = new Start();
        final Start right = new Start();

        Layout() {
            setUsual();
        }

        void setUsual() {
            end = 600;
            gap = 40;
            change = 2;
            top = 12;
            hoist = 6;
            left.set(100, 30, 0);
            right.set(500, 30, 0);
        }

        boolean holdsBoth() {
            return left.place <= end && right.place <= end && right.place - left.place >= gap;
        }
    }

    /** One crane as it stands. */
    private static final class Crane {
        int place;
        int speed;
        int rope;
        int load;
        int swing;
        int rate;
        int want;
        int target;
        // At most two steps are ever to come; one by 0 is none.
        int soonIn;
        int soonBy;
        int laterIn;
        int laterBy;
        boolean braked;

        void begin(Start start) {
            place = start.place;
            speed = 0;
            rope = start.rope;
            load = start.load;
            swing = 0;
            rate = 0;
            want = 0;
            target = start.rope;
            setSteps(0, 0, 0);
            braked = false;
        }

        void copyFrom(Crane other) {
            place = other.place;
            speed = other.speed;
            rope = other.rope;
            load = other.load;
            swing = other.swing;
            rate = other.rate;
            want = other.want;
            target = other.target;
            soonIn = other.soonIn;
            soonBy = other.soonBy;
            laterIn = other.laterIn;
            laterBy = other.laterBy;
            braked = other.braked;
        }

        void setSteps(int by, int restBy, int pause) {
            soonIn = 1;
            soonBy = by;
            laterIn = 1 + pause;
            laterBy = restBy;
        }

        void planAtOnce(int w) {
            setSteps(w - want, 0, 0);
        }

        /** A pause below 0 is half a swing of the rope as it is now. */
        void planByHalves(int w, int pause) {
            int whole = w - want;
            int first = whole / 2;
            setSteps(first, whole - first, pause < 0 ? halfSwing(rope) : pause);
        }

        int stepsToCome() {
            return (soonBy != 0 ? 1 : 0) + (laterBy != 0 ? 1 : 0);
        }

        boolean isSoon(int k) {
            return k == 0 && soonBy != 0;
        }

        int stepIn(int k) {
            return isSoon(k) ? soonIn : laterIn;
        }

        int stepBy(int k) {
            return isSoon(k) ? soonBy : laterBy;
        }

        int limit(Layout rules) {
            return Math.max(1, rules.top - load / 10);
        }

        boolean isQuiet() {
            return speed == 0 && want == 0 && stepsToCome() == 0 && Math.abs(swing) <= 3 && Math.abs(rate) <= 2;
        }

        void roll(Layout rules, int roomBelow, int roomAbove) {
            takeSteps();
            int next = speedNearerToWant(rules);
            int room = next < 0 ? roomBelow : roomAbove;
            braked = wayToStop(next, rules.change) > room;
            if (braked) {
                next = speedForRoom(next, room, rules.change);
            }
            swingOut(next - speed);
            place += next;
            speed = next;
        }

        void takeSteps() {
            soonIn--;
            laterIn--;
            if (soonBy != 0 && soonIn < 1) {
                want += soonBy;
                soonBy = 0;
            }
            if (laterBy != 0 && laterIn < 1) {
                want += laterBy;
                laterBy = 0;
            }
        }

        int speedNearerToWant(Layout rules) {
            int wanted = keptWithin(want, limit(rules));
            return speed + keptWithin(wanted - speed, rules.change);
        }

        int speedForRoom(int wanted, int room, int change) {
            int sign = wanted < 0 ? -1 : 1;
            for (int size = Math.abs(wanted) - 1; size > 0; size--) {
                if (wayToStop(size, change) <= room) {
                    return sign * size;
                }
            }
            return 0;
        }

        void swingOut(int difference) {
            int pull = rope > 0 ? 16 * swing / rope : 0;
            rate = keptWithin(rate - pull - 4 * difference, MOST_SWING);
            swing = keptWithin(swing + rate, MOST_SWING);
        }

        /** Level below 0: the other rope does not matter. */
        void hoistRope(int slowest, int otherRope, int level) {
            if (target == rope || Math.abs(speed) > slowest) {
                return;
            }
            int next = target > rope ? rope + 1 : rope - 1;
            int apart = Math.abs(next - otherRope);
            if (level >= 0 && apart > level && apart > Math.abs(rope - otherRope)) {
                return;
            }
            rope = next;
        }
    }

    /** Both cranes, left of which is 0, and whether they are coupled: all that a tick tried ahead needs. */
    private static final class Pair {
        final Crane left = new Crane();
        final Crane right = new Crane();
        int level = NONE;

        void begin(Layout rules) {
            left.begin(rules.left);
            right.begin(rules.right);
            level = NONE;
        }

        void copyFrom(Pair other) {
            left.copyFrom(other.left);
            right.copyFrom(other.right);
            level = other.level;
        }

        Crane side(int c) {
            return c == 0 ? left : right;
        }

        int freeBetween(Layout rules) {
            return right.place - left.place - rules.gap;
        }

        boolean isCoupled() {
            return level >= 0;
        }

        boolean leftHeeds(int c) {
            return c == 0 || isCoupled();
        }

        boolean rightHeeds(int c) {
            return c == 1 || isCoupled();
        }

        int heeding() {
            return isCoupled() ? 2 : 1;
        }

        int tellAtOnce(int c, int w) {
            if (leftHeeds(c)) {
                left.planAtOnce(w);
            }
            if (rightHeeds(c)) {
                right.planAtOnce(w);
            }
            return heeding();
        }

        int tellByHalves(int c, int w, int pause) {
            if (leftHeeds(c)) {
                left.planByHalves(w, pause);
            }
            if (rightHeeds(c)) {
                right.planByHalves(w, pause);
            }
            return heeding();
        }

        boolean aimsAt(int c, int rope) {
            return (!leftHeeds(c) || left.target == rope) && (!rightHeeds(c) || right.target == rope);
        }

        void aim(int c, int rope) {
            if (leftHeeds(c)) {
                left.target = rope;
            }
            if (rightHeeds(c)) {
                right.target = rope;
            }
        }

        /** One tick; answers how many cranes were braked in it. */
        int goOn(Layout rules) {
            // Taken before either moves: both go by how all stands ahead of the tick.
            int share = freeBetween(rules) / 2;
            left.roll(rules, left.place, share);
            right.roll(rules, share, rules.end - right.place);
            left.hoistRope(rules.hoist, right.rope, level);
            right.hoistRope(rules.hoist, left.rope, level);
            return (left.braked ? 1 : 0) + (right.braked ? 1 : 0);
        }
    }

    /** Where one crane has been and how long, in the order in which it came there. */
    private static final class Spots {
        static final int BLOCK = 50;
        static final int FLOOR = 10;
        // 20 blocks of a beam of 999, and ropes of 10 to 60.
        static final int MOST = 20 * 6;
        static final int NAME_STEP = MOST_SPOT_NUMBER + 1;

        final int[] names = new int[MOST];
        final int[] ticks = new int[MOST];
        int many;

        void copyFrom(Spots other) {
            many = other.many;
            for (int k = 0; k < many && k < MOST; k++) {
                put(k, other.nameAt(k), other.ticksAt(k));
            }
        }

        void put(int k, int name, int told) {
            if (k >= 0 && k < names.length && k < ticks.length) {
                names[k] = name;
                ticks[k] = told;
            }
        }

        void addTick(Crane crane) {
            int name = nameOf(crane.place / BLOCK, crane.rope / FLOOR);
            int k = find(name);
            put(k, name, ticksAt(k) + 1);
            if (k == many && many < MOST) {
                many++;
            }
        }

        /** The number of a spot; of one that has not been had, the number that it would get. */
        int find(int name) {
            for (int k = 0; k < many && k < MOST; k++) {
                if (nameAt(k) == name) {
                    return k;
                }
            }
            return many;
        }

        int nameOf(int block, int floor) {
            return block * NAME_STEP + floor;
        }

        int nameAt(int k) {
            return k >= 0 && k < names.length ? names[k] : 0;
        }

        /** Spots behind the last one may hold what was had in a story long undone. */
        int ticksAt(int k) {
            return k >= 0 && k < many && k < ticks.length ? ticks[k] : 0;
        }

        int ticksIn(int block, int floor) {
            return ticksAt(find(nameOf(block, floor)));
        }

        int blockAt(int k) {
            return nameAt(k) / NAME_STEP;
        }

        int floorAt(int k) {
            return nameAt(k) % NAME_STEP;
        }
    }

    /** All that a change changes, and that is there again when it is undone. */
    private static final class Story {
        final Pair pair = new Pair();
        final Spots leftSpots = new Spots();
        final Spots rightSpots = new Spots();
        int ticks;

        void begin(Layout rules) {
            pair.begin(rules);
            leftSpots.many = 0;
            rightSpots.many = 0;
            ticks = 0;
        }

        void copyFrom(Story other) {
            pair.copyFrom(other.pair);
            leftSpots.copyFrom(other.leftSpots);
            rightSpots.copyFrom(other.rightSpots);
            ticks = other.ticks;
        }

        Spots spotsOf(int c) {
            return c == 0 ? leftSpots : rightSpots;
        }

        int goOn(Layout rules) {
            int braked = pair.goOn(rules);
            leftSpots.addTick(pair.left);
            rightSpots.addTick(pair.right);
            ticks++;
            return braked;
        }
    }
}
