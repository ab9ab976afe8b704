import java.util.ArrayDeque;
import java.util.ArrayList;
import java.util.LinkedHashMap;
import java.util.List;
import java.util.regex.Matcher;
import java.util.regex.Pattern;

/**
 * The document once more, written without a look at the program and as naively as can be: whole copies for
 * undoing and trying, steps told by the tick that they fall in, texts read by patterns, sums made part by part.
 */
final class Model {
    static final int BAD = -1, NO = -2, FULL = -3, NONE = -4, ZERO = 100000;
    private static final String N = "(\\d{1,3})";
    private static final Pattern ITEM = Pattern.compile(
        "e" + N + ";|g" + N + ";|c" + N + "," + N + "," + N + "," + N + ";|k" + N + "," + N + "," + N + ";");

    static final class Step {
        final int at;
        final int by;

        Step(int at, int by) {
            this.at = at;
            this.by = by;
        }
    }

    static final class Standing {
        int[] x = {100, 500}, v = {0, 0}, l = {30, 30}, m = {0, 0}, s = {0, 0}, r = {0, 0};
        int[] want = {0, 0}, target = {30, 30};
        boolean[] braked = {false, false};
        List<List<Step>> steps = List.of(new ArrayList<>(), new ArrayList<>());
        List<LinkedHashMap<String, Integer>> spots = List.of(new LinkedHashMap<>(), new LinkedHashMap<>());
        Integer level = null;
        int ticks = 0;

        Standing copy() {
            Standing c = new Standing();
            c.x = x.clone();
            c.v = v.clone();
            c.l = l.clone();
            c.m = m.clone();
            c.s = s.clone();
            c.r = r.clone();
            c.want = want.clone();
            c.target = target.clone();
            for (int i = 0; i < 2; i++) {
                c.steps.get(i).addAll(steps.get(i));
                c.spots.get(i).putAll(spots.get(i));
            }
            c.level = level;
            c.ticks = ticks;
            return c;
        }
    }

    static final class Rules {
        int end = 600, gap = 40, a = 2, top = 12, h = 6;
        int[][] cranes = {{100, 30, 0}, {500, 30, 0}};
    }

    private String text = "";
    private Rules rules = new Rules();
    private Standing now = new Standing();
    private ArrayDeque<Standing> past = new ArrayDeque<>();

    int write(int letter) {
        if (letter < 32 || letter > 126) return BAD;
        if (text.length() == 200) return FULL;
        text += (char) letter;
        return text.length();
    }

    int wipe() {
        int was = text.length();
        text = "";
        return was;
    }

    /** The place of the fault in the first of the answer, -1 for none; the rules read into r. */
    private int read(Rules r) {
        int at = 0;
        while (at < text.length()) {
            Matcher m = ITEM.matcher(text);
            m.region(at, text.length());
            if (!m.lookingAt()) return at;
            boolean so;
            if (m.group(1) != null) {
                r.end = num(m, 1);
                so = r.end >= 200 && r.end <= 999;
            } else if (m.group(2) != null) {
                r.gap = num(m, 2);
                so = r.gap >= 10 && r.gap <= 99;
            } else if (m.group(3) != null) {
                so = num(m, 3) <= 1 && num(m, 5) >= 10 && num(m, 5) <= 60 && num(m, 6) <= 99;
                if (so) r.cranes[num(m, 3)] = new int[] {num(m, 4), num(m, 5), num(m, 6)};
            } else {
                r.a = num(m, 7);
                r.top = num(m, 8);
                r.h = num(m, 9);
                so = r.a >= 1 && r.a <= 9 && r.top >= 1 && r.top <= 40 && r.h <= 40;
            }
            if (!so) return at;
            at = m.end();
        }
        return -1;
    }

    private static int num(Matcher m, int group) {
        return Integer.parseInt(m.group(group));
    }

    int fault() {
        int at = read(new Rules());
        return at < 0 ? NONE : at;
    }

    int lay() {
        Rules r = new Rules();
        if (read(r) >= 0) return NO;
        int x0 = r.cranes[0][0];
        int x1 = r.cranes[1][0];
        if (x0 > r.end || x1 > r.end || x1 < x0 + r.gap) return NO;
        rules = r;
        now = new Standing();
        for (int c = 0; c < 2; c++) {
            now.x[c] = r.cranes[c][0];
            now.l[c] = r.cranes[c][1];
            now.target[c] = r.cranes[c][1];
            now.m[c] = r.cranes[c][2];
        }
        past.clear();
        return r.end;
    }

    private void change() {
        past.addLast(now.copy());
        if (past.size() > 4) past.removeFirst();
    }

    private List<Integer> heeding(Standing st, int c) {
        return st.level == null ? List.of(c) : List.of(0, 1);
    }

    private static void step(Standing st, int c, int at, int by) {
        if (by != 0) st.steps.get(c).add(new Step(at, by));
    }

    private int commandOn(Standing st, int c, int w) {
        for (int i : heeding(st, c)) {
            st.steps.get(i).clear();
            step(st, i, st.ticks + 1, w - st.want[i]);
        }
        return heeding(st, c).size();
    }

    private int shapeOn(Standing st, int c, int w, int pause) {
        for (int i : heeding(st, c)) {
            int p = pause == -1 ? half(st.l[i]) : pause;
            int all = w - st.want[i];
            st.steps.get(i).clear();
            step(st, i, st.ticks + 1, all / 2);
            step(st, i, st.ticks + 1 + p, all - all / 2);
        }
        return heeding(st, c).size();
    }

    int command(int c, int w) {
        if (c < 0 || c > 1 || w < -40 || w > 40) return BAD;
        change();
        return commandOn(now, c, w);
    }

    int shape(int c, int w, int pause) {
        if (c < 0 || c > 1 || w < -40 || w > 40 || pause < -1 || pause > 20) return BAD;
        change();
        return shapeOn(now, c, w, pause);
    }

    int target(int c, int l) {
        if (c < 0 || c > 1 || l < 10 || l > 60) return BAD;
        boolean isSo = true;
        for (int i : heeding(now, c)) isSo &= now.target[i] == l;
        if (isSo) return NO;
        change();
        int was = now.target[c];
        for (int i : heeding(now, c)) now.target[i] = l;
        return was;
    }

    int load(int c, int m) {
        if (c < 0 || c > 1 || m < 0 || m > 99) return BAD;
        if (now.m[c] == m) return NO;
        change();
        int was = now.m[c];
        now.m[c] = m;
        return was;
    }

    int couple(int level) {
        if (level < -1 || level > 20) return BAD;
        Integer told = level == -1 ? null : Integer.valueOf(level);
        if (told == null ? now.level == null : told.equals(now.level)) return NO;
        change();
        int was = now.level == null ? NONE : now.level;
        now.level = told;
        return was;
    }

    private static int near(int from, int to, int most) {
        int at = from;
        for (int i = 0; i < most && at != to; i++) at += to > at ? 1 : -1;
        return at;
    }

    private static int keep(int n) {
        return n > 9999 ? 9999 : n < -9999 ? -9999 : n;
    }

    private int limit(Standing st, int c) {
        int limit = rules.top - st.m[c] / 10;
        return limit < 1 ? 1 : limit;
    }

    private void oneTick(Standing st) {
        int[] x = st.x.clone();
        st.ticks++;
        for (int c = 0; c < 2; c++) {
            List<Step> later = new ArrayList<>();
            for (Step step : st.steps.get(c)) {
                if (step.at == st.ticks) st.want[c] += step.by;
                else later.add(step);
            }
            st.steps.get(c).clear();
            st.steps.get(c).addAll(later);
            int limit = limit(st, c);
            int want = st.want[c] > limit ? limit : st.want[c] < -limit ? -limit : st.want[c];
            int v = near(st.v[c], want, rules.a);
            int room = Integer.MAX_VALUE;
            if (v > 0) room = c == 1 ? rules.end - x[1] : (x[1] - x[0] - rules.gap) / 2;
            if (v < 0) room = c == 0 ? x[0] : (x[1] - x[0] - rules.gap) / 2;
            st.braked[c] = sum(v) > room;
            while (sum(v) > room) v += v > 0 ? -1 : 1;
            st.x[c] += v;
            int d = v - st.v[c];
            st.v[c] = v;
            st.r[c] = keep(st.r[c] - 16 * st.s[c] / st.l[c] - 4 * d);
            st.s[c] = keep(st.s[c] + st.r[c]);
        }
        for (int c = 0; c < 2; c++) {
            int l = st.l[c];
            int other = st.l[1 - c];
            if (st.target[c] == l || Math.abs(st.v[c]) > rules.h) continue;
            int next = near(l, st.target[c], 1);
            if (st.level != null) {
                int apart = Math.abs(next - other);
                if (apart > st.level && apart > Math.abs(l - other)) continue;
            }
            st.l[c] = next;
        }
        for (int c = 0; c < 2; c++) st.spots.get(c).merge(st.x[c] / 50 + " " + st.l[c] / 10, 1, Integer::sum);
    }

    int tick(int n) {
        if (n < 1 || n > 60) return BAD;
        if (now.ticks + n > 9999) return NO;
        change();
        int braked = 0;
        for (int i = 0; i < n; i++) {
            oneTick(now);
            for (int c = 0; c < 2; c++) if (now.braked[c]) braked++;
        }
        return braked;
    }

    int undo() {
        if (past.isEmpty()) return NO;
        now = past.removeLast();
        return past.size();
    }

    private static boolean isQuiet(Standing st, int c) {
        return st.v[c] == 0 && st.want[c] == 0 && st.steps.get(c).isEmpty() && Math.abs(st.s[c]) <= 3
            && Math.abs(st.r[c]) <= 2;
    }

    int crane(int c, int what) {
        if (c < 0 || c > 1 || what < 0 || what > 12) return BAD;
        int[] all = {now.x[c], now.v[c] + ZERO, now.l[c], now.m[c], now.s[c] + ZERO, now.r[c] + ZERO,
            now.want[c] + ZERO, now.target[c], limit(now, c), now.steps.get(c).size(), sum(now.v[c]), half(now.l[c]),
            isQuiet(now, c) ? 1 : 0};
        return all[what];
    }

    int stepOf(int c, int k, int what) {
        if (c < 0 || c > 1 || k < 0 || what < 0 || what > 1) return BAD;
        if (k >= now.steps.get(c).size()) return NONE;
        Step step = now.steps.get(c).get(k);
        return what == 0 ? step.at - now.ticks : step.by + ZERO;
    }

    private int sum(int v) {
        int way = 0;
        for (int rest = Math.abs(v); rest > 0; rest -= rules.a) way += rest;
        return way;
    }

    int stop(int v) {
        return v < -40 || v > 40 ? BAD : sum(v);
    }

    int half(int l) {
        if (l < 10 || l > 60) return BAD;
        for (int h = 1;; h++) if (8 * h * h >= 5 * l) return h;
    }

    int spot(int c, int k, int what) {
        if (c < 0 || c > 1 || k < -1 || what < 0 || what > 2) return BAD;
        List<String> names = new ArrayList<>(now.spots.get(c).keySet());
        if (k == -1) return names.size();
        if (k >= names.size()) return NONE;
        String name = names.get(k);
        return what == 2 ? now.spots.get(c).get(name) : Integer.parseInt(name.split(" ")[what]);
    }

    int been(int c, int x, int l) {
        if (c < 0 || c > 1 || x < 0 || x > 99 || l < 0 || l > 99) return BAD;
        return now.spots.get(c).getOrDefault(x + " " + l, 0);
    }

    int ahead(int n, int c, int what) {
        if (n < 1 || n > 60 || c < 0 || c > 1 || what < 0 || what > 5) return BAD;
        Standing st = now.copy();
        int greatest = 0;
        int braked = 0;
        for (int i = 0; i < n; i++) {
            oneTick(st);
            greatest = Math.max(greatest, Math.abs(st.s[c]));
            if (st.braked[c]) braked++;
        }
        int[] all = {st.x[c], st.v[c] + ZERO, st.l[c], st.s[c] + ZERO, greatest, braked};
        return all[what];
    }

    int quiet(int c) {
        if (c < 0 || c > 1) return BAD;
        Standing st = now.copy();
        commandOn(st, c, 0);
        for (int n = 0; n <= 60; n++) {
            if (isQuiet(st, c)) return n;
            oneTick(st);
        }
        return NONE;
    }

    int best(int c, int w, int what) {
        if (c < 0 || c > 1 || w < -40 || w > 40 || what < 0 || what > 1) return BAD;
        int pause = -1;
        int least = Integer.MAX_VALUE;
        for (int p = 0; p <= 20; p++) {
            Standing st = now.copy();
            shapeOn(st, c, w, p);
            int greatest = 0;
            for (int i = 1; i <= 60; i++) {
                oneTick(st);
                if (i > 20) greatest = Math.max(greatest, Math.abs(st.s[c]));
            }
            if (greatest < least) {
                least = greatest;
                pause = p;
            }
        }
        return what == 0 ? pause : least;
    }

    int count(int what) {
        int level = now.level == null ? NONE : now.level;
        int[] all = {rules.end, rules.gap, rules.a, rules.top, rules.h, level, now.ticks, past.size(), text.length(),
            now.x[1] - now.x[0] - rules.gap};
        return what < 0 || what >= all.length ? BAD : all[what];
    }
}
