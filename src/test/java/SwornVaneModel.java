import java.util.ArrayList;
import java.util.HashMap;
import java.util.List;
import java.util.Map;

/** Long made-up runs of calls, each answer held against a plain model that tries all WINDS out. */
public final class SwornVaneModel {
    static final int NONE = -1, UNKNOWN = -101, OUTSIDE = -102, STATE = -103, FULL = -104;

    public static void main(String[] args) {
        int wrong = 0;
        long calls = 0;
        for (int run = 0; run < 900 && wrong < 10; run++) {
            Draws draws = new Draws(1000 + run);
            SwornVane real = new SwornVane();
            Model model = new Model();
            int most = run % 5 == 0 ? 512 : 120;
            StringBuilder told = new StringBuilder();
            for (int i = 0; i < most; i++) {
                int[] call = nextCall(draws, model, run);
                long due = model.answer(call);
                long got = answer(real, call);
                calls++;
                told.append(name(call)).append(' ').append(due).append('\n');
                if (due != got) {
                    wrong++;
                    System.out.println("run " + run + " call " + i + ": " + name(call)
                            + " answered " + got + ", due is " + due);
                    if (wrong == 1) {
                        System.out.println(told);
                    }
                    break;
                }
            }
        }
        System.out.println(calls + " calls held against the model, " + wrong + " wrong");
        if (wrong != 0) {
            System.exit(1);
        }
    }

    static final String[] NAMES = {"letter", "blank", "fault", "day", "wind", "vane", "about", "as",
        "oil", "see", "forget", "fitting", "points", "blows", "ask", "proof", "sorts", "oiling",
        "gusts", "image", "restore", "count", "digest"};

    static String name(int[] c) {
        return NAMES[c[0]] + "(" + c[1] + "," + c[2] + "," + c[3] + ")";
    }

    static long answer(SwornVane x, int[] c) {
        switch (c[0]) {
            case 0: return x.letter(c[1]);
            case 1: return x.blank();
            case 2: return x.fault();
            case 3: return x.day();
            case 4: return x.wind(c[1], c[2]);
            case 5: return x.vane(c[1], c[2], c[3]);
            case 6: return x.about(c[1], c[2]);
            case 7: return x.as(c[1], c[2]);
            case 8: return x.oil(c[1], c[2]);
            case 9: return x.see(c[1], c[2], c[3]);
            case 10: return x.forget();
            case 11: return x.fitting();
            case 12: return x.points(c[1], c[2]);
            case 13: return x.blows(c[1]);
            case 14: return x.ask(c[1]);
            case 15: return x.proof(c[1], c[2]);
            case 16: return x.sorts(c[1], c[2]);
            case 17: return x.oiling(c[1], c[2], c[3]);
            case 18: return x.gusts(c[1], c[2], c[3]);
            case 19: return x.image();
            case 20: return x.restore();
            case 21: return x.count(c[1]);
            default: return x.digest();
        }
    }

    // ---- what is called

    static final int[] EDGES = {Integer.MIN_VALUE, Integer.MIN_VALUE + 9, -103, -2, -1, 4, 5, 6, 7, 8, 9, 14, 31, 41, 127,
        128, Integer.MAX_VALUE - 1, Integer.MAX_VALUE};

    /** Calls by their places in NAMES; those that stand oftener are made oftener. */
    static final int[] MIX = {4, 5, 6, 6, 7, 8, 9, 9, 9, 9, 9, 9, 11, 11, 12, 12, 13, 13, 14, 15, 15,
        16, 16, 17, 17, 17, 18, 19, 20, 21, 22};
    static final int[] RARE = {0, 0, 1, 2, 3, 10};

    static int[] nextCall(Draws d, Model m, int run) {
        boolean needsDay = m.day.isEmpty() && d.of(10) < 8 || d.of(90) == 0;
        if (needsDay || m.page.length() > 0 && d.of(10) < 7) {
            return spelling(d, m, run);
        }
        if (!m.day.isEmpty() && m.vanes.size() < 1 + run % 4 && d.of(10) < 6) {
            return new int[] {5, d.of(5), d.of(4), d.of(4)};
        }
        int[] c = {d.of(14) == 0 ? RARE[d.of(RARE.length)] : MIX[d.of(MIX.length)], 0, 0, 0};
        int hours = Math.max(1, m.day.size());
        int vanes = Math.max(1, m.vanes.size());
        switch (c[0]) {
            case 0: c[1] = "nesw?".charAt(d.of(5)); break;
            case 4: c[1] = d.of(hours); c[2] = d.of(3) > 0 ? -1 : d.of(4); break;
            case 5: c[1] = d.of(5); c[2] = d.of(4); c[3] = d.of(4); break;
            case 6: c[1] = d.of(vanes); c[2] = d.of(2) == 0 ? d.of(4) : 10 + d.of(4); break;
            case 7: c[1] = d.of(vanes); c[2] = d.of(5); break;
            case 8: c[1] = d.of(vanes); c[2] = d.of(4); break;
            case 9: seeing(c, d, m); break;
            case 12: c[1] = d.of(vanes); c[2] = d.of(hours); break;
            case 13: c[1] = d.of(hours); break;
            case 14: c[1] = d.of(3); break;
            case 15: c[1] = d.of(hours); c[2] = d.of(2); break;
            case 16: c[1] = d.of(vanes); c[2] = d.of(2); break;
            case 17: c[1] = d.of(hours); c[2] = d.of(4); c[3] = d.of(2); break;
            case 18: c[1] = 1 + d.of(40); c[2] = d.any() & Integer.MAX_VALUE; c[3] = d.of(2); break;
            case 21: c[1] = d.of(7); break;
            default: break;
        }
        if (d.of(8) == 0) {
            c[1 + d.of(3)] = EDGES[d.of(EDGES.length)];
        }
        return c;
    }

    static int[] spelling(Draws d, Model m, int run) {
        int most = run % 9 == 0 ? 6 : run % 4 == 0 ? 5 : 2 + run % 3;
        if (m.fault() < m.page.length() && d.of(4) > 0) {
            return new int[] {1 + d.of(3), 0, 0, 0};
        }
        if (m.page.length() >= most && d.of(15) > 0) {
            return new int[] {3, 0, 0, 0};
        }
        int code = d.of(40) == 0 ? d.of(140) : d.of(3) > 0 ? '?' : "nesw".charAt(d.of(4));
        return new int[] {0, code, 0, 0};
    }

    /** Mostly what truly can be SEEN, so that something goes on to be FITTING. */
    static void seeing(int[] c, Draws d, Model m) {
        if (m.vanes.isEmpty() || m.day.isEmpty()) {
            return;
        }
        c[1] = d.of(m.vanes.size());
        c[2] = d.of(m.day.size());
        c[3] = d.of(4);
        List<int[]> ways = m.ways();
        if (!ways.isEmpty() && d.of(5) > 0) {
            c[3] = m.path(c[1], ways.get(d.of(ways.size())))[c[2]];
        }
    }

    static final class Draws {
        private long state;

        Draws(long seed) {
            state = seed * 2862933555777941757L + 3037000493L;
        }

        int any() {
            state = state * 6364136223846793005L + 1442695040888963407L;
            return (int) (state >>> 32);
        }

        int of(int n) {
            return (int) ((any() & 0xffffffffL) % n);
        }
    }

    // ---- the model

    static final class Vane {
        int kind, start, twist;

        Vane(int kind, int start, int twist) {
            this.kind = kind;
            this.start = start;
            this.twist = twist;
        }

        int after(int at, int wind) {
            int goal = kind >= 3 ? (wind + twist) % 4 : wind;
            if (kind == 0 || kind == 3) {
                return goal;
            }
            if (kind == 2) {
                return wind == twist ? at : wind;
            }
            if (goal == (at + 1) % 4 || goal == (at + 2) % 4) {
                return (at + 1) % 4;
            }
            return goal == at ? at : (at + 3) % 4;
        }
    }

    static final class Model {
        String page = "";
        List<Integer> day = new ArrayList<>();
        List<Vane> vanes = new ArrayList<>();
        List<int[]> seen = new ArrayList<>();
        List<Integer> keptDay;
        List<Integer> keptTwists;
        List<int[]> keptSeen;
        int readings;
        int inquiries;

        boolean isHour(int h) {
            return h >= 0 && h < day.size();
        }

        boolean isVane(int v) {
            return v >= 0 && v < vanes.size();
        }

        static boolean in(int x, int least, int most) {
            return x >= least && x <= most;
        }

        long answer(int[] c) {
            int a = c[1];
            int b = c[2];
            int e = c[3];
            switch (c[0]) {
                case 0: return letter(a);
                case 1: return blank();
                case 2: return fault();
                case 3: return day();
                case 4:
                    if (!isHour(a)) return UNKNOWN;
                    return !in(b, -1, 3) ? OUTSIDE : day.set(a, b);
                case 5: return vane(a, b, e);
                case 6: return about(a, b);
                case 7:
                    if (!isVane(a)) return UNKNOWN;
                    if (!in(b, 0, 4)) return OUTSIDE;
                    return b == 0 || b == vanes.get(a).kind || b == 3 && vanes.get(a).kind == 4 ? a : NONE;
                case 8: return oil(a, b);
                case 9: return see(a, b, e);
                case 10:
                    int had = seen.size();
                    seen.clear();
                    return had;
                case 11: return day.isEmpty() ? STATE : ways().size();
                case 12: return !isVane(a) || !isHour(b) ? UNKNOWN : points(a, b);
                case 13: return !isHour(a) ? UNKNOWN : blows(a);
                case 14: return ask(a);
                case 15: return proof(a, b);
                case 16: return sorts(a, b);
                case 17: return oiling(a, b, e);
                case 18: return gusts(a, b, e);
                case 19: return image();
                case 20: return restore();
                case 21: return count(a);
                default: return digest();
            }
        }

        int letter(int code) {
            if (!in(code, 32, 126)) return OUTSIDE;
            if (page.length() == 8) return FULL;
            page += (char) code;
            return page.length();
        }

        int blank() {
            int had = page.length();
            page = "";
            return had;
        }

        int fault() {
            int good = page.length();
            while (!page.substring(0, good).matches("[nesw?]{0,6}")) good--;
            return good;
        }

        int day() {
            if (!page.matches("[nesw?]{1,6}")) return STATE;
            day = new ArrayList<>();
            for (char letter : page.toCharArray()) day.add("nesw".indexOf(letter));
            vanes = new ArrayList<>();
            seen = new ArrayList<>();
            keptDay = null;
            page = "";
            readings++;
            return day.size();
        }

        int vane(int kind, int start, int twist) {
            if (!in(kind, 0, 4) || !in(start, 0, 3) || !in(twist, 0, 3)) return OUTSIDE;
            if (day.isEmpty()) return STATE;
            if (vanes.size() == 4) return FULL;
            vanes.add(new Vane(kind, start, twist));
            return vanes.size() - 1;
        }

        int about(int v, int what) {
            if (!isVane(v)) return UNKNOWN;
            Vane it = vanes.get(v);
            if (what == 0) return it.kind;
            if (what == 1) return it.start;
            if (what == 2) return it.twist;
            if (what == 3) return (int) seen.stream().filter(s -> s[0] == v).count();
            return in(what, 10, 13) ? it.after(0, what - 10) : OUTSIDE;
        }

        int oil(int v, int twist) {
            if (!isVane(v)) return UNKNOWN;
            if (!in(twist, 0, 3)) return OUTSIDE;
            int was = vanes.get(v).twist;
            vanes.get(v).twist = twist;
            return was;
        }

        int see(int v, int h, int q) {
            if (!isVane(v) || !isHour(h)) return UNKNOWN;
            if (!in(q, 0, 3)) return OUTSIDE;
            if (seen.size() == 10) return FULL;
            seen.add(new int[] {v, h, q});
            return seen.size();
        }

        int[] path(int v, int[] winds) {
            int[] path = new int[winds.length];
            int at = vanes.get(v).start;
            for (int h = 0; h < winds.length; h++) {
                at = vanes.get(v).after(at, winds[h]);
                path[h] = at;
            }
            return path;
        }

        /** All WINDS of a DAY that are FITTING. */
        List<int[]> ways() {
            List<int[]> ways = new ArrayList<>();
            int n = day.size();
            for (int code = 0; code < 1 << 2 * n; code++) {
                int[] winds = new int[n];
                boolean fits = true;
                for (int h = 0; h < n; h++) {
                    winds[h] = code >> 2 * h & 3;
                    fits &= day.get(h) == NONE || day.get(h) == winds[h];
                }
                if (fits && fitsSeen(winds)) ways.add(winds);
            }
            return ways;
        }

        boolean fitsSeen(int[] winds) {
            int[][] paths = new int[vanes.size()][];
            for (int[] s : seen) {
                if (paths[s[0]] == null) paths[s[0]] = path(s[0], winds);
                if (paths[s[0]][s[1]] != s[2]) return false;
            }
            return true;
        }

        int points(int v, int h) {
            int bits = 0;
            for (int[] winds : ways()) bits |= 1 << path(v, winds)[h];
            return bits;
        }

        int blows(int h) {
            int bits = 0;
            for (int[] winds : ways()) bits |= 1 << winds[h];
            return bits;
        }

        boolean isClosed() {
            return vanes.isEmpty() || inquiries == 30;
        }

        int ask(int what) {
            if (!in(what, 0, 2)) return OUTSIDE;
            if (isClosed()) return STATE;
            inquiries++;
            List<int[]> ways = ways();
            if (ways.isEmpty()) return NONE;
            int[] best = {0, 0, Integer.MAX_VALUE};
            for (int v = 0; v < vanes.size(); v++) {
                for (int h = 0; h < day.size(); h++) {
                    int[] by = new int[4];
                    for (int[] winds : ways) by[path(v, winds)[h]]++;
                    int worst = Math.max(Math.max(by[0], by[1]), Math.max(by[2], by[3]));
                    if (worst < best[2]) best = new int[] {v, h, worst};
                }
            }
            return best[what];
        }

        int proof(int h, int what) {
            if (!isHour(h)) return UNKNOWN;
            if (!in(what, 0, 1)) return OUTSIDE;
            if (isClosed()) return STATE;
            inquiries++;
            List<int[]> ways = ways();
            if (ways.isEmpty()) return NONE;
            for (int few = 0; few <= vanes.size(); few++) {
                for (int set = 0; set < 1 << vanes.size(); set++) {
                    if (Integer.bitCount(set) == few && proves(set, h, ways)) return what == 0 ? few : set;
                }
            }
            return NONE;
        }

        boolean proves(int set, int h, List<int[]> ways) {
            Map<String, Integer> told = new HashMap<>();
            for (int[] winds : ways) {
                StringBuilder key = new StringBuilder();
                for (int v = 0; v < vanes.size(); v++) {
                    if ((set >> v & 1) == 1) key.append(java.util.Arrays.toString(path(v, winds)));
                }
                Integer other = told.put(key.toString(), winds[h]);
                if (other != null && other != winds[h]) return false;
            }
            return true;
        }

        int sorts(int v, int what) {
            if (!isVane(v)) return UNKNOWN;
            if (!in(what, 0, 1)) return OUTSIDE;
            if (isClosed()) return STATE;
            inquiries++;
            Vane own = vanes.get(v);
            int many = 0;
            int least = NONE;
            for (int sort = 19; sort >= 0; sort--) {
                vanes.set(v, new Vane(sort / 4, own.start, sort % 4));
                if (!ways().isEmpty()) {
                    many++;
                    least = sort;
                }
            }
            vanes.set(v, own);
            return what == 0 ? many : least;
        }

        int oiling(int h, int q, int what) {
            if (!isHour(h)) return UNKNOWN;
            if (!in(q, 0, 3) || !in(what, 0, 1)) return OUTSIDE;
            if (vanes.isEmpty()) return STATE;
            int[] winds = new int[h + 1];
            for (int i = 0; i <= h; i++) {
                winds[i] = day.get(i);
                if (winds[i] == NONE) return STATE;
            }
            int n = vanes.size();
            int best = NONE;
            for (int code = 0; code < 1 << 2 * n; code++) {
                int changed = 0;
                int there = 0;
                for (int v = 0; v < n; v++) {
                    Vane own = vanes.get(v);
                    Vane other = new Vane(own.kind, own.start, code >> 2 * v & 3);
                    if (other.twist != own.twist) changed |= 1 << v;
                    vanes.set(v, other);
                    if (path(v, winds)[h] == q) there++;
                    vanes.set(v, own);
                }
                if (there * 2 > n && (best == NONE || Integer.bitCount(changed) < Integer.bitCount(best)
                        || Integer.bitCount(changed) == Integer.bitCount(best) && changed < best)) {
                    best = changed;
                }
            }
            return best == NONE || what == 1 ? best : Integer.bitCount(best);
        }

        int gusts(int days, int seed, int what) {
            if (!in(days, 1, 40) || seed < 0 || !in(what, 0, 1)) return OUTSIDE;
            if (day.isEmpty()) return STATE;
            long s = seed;
            int hits = 0;
            for (int d = 0; d < days; d++) {
                int[] winds = new int[day.size()];
                for (int h = 0; h < winds.length; h++) {
                    winds[h] = day.get(h);
                    if (winds[h] == NONE) {
                        s = (1103515245L * s + 12345L) % 2147483648L;
                        winds[h] = (int) (s / 65536L % 4L);
                    }
                }
                for (int h = 0; h < winds.length; h++) {
                    int there = 0;
                    for (int v = 0; v < vanes.size(); v++) {
                        if (path(v, winds)[h] == winds[h]) there++;
                    }
                    if (there > vanes.size() / 2.0) hits++;
                }
            }
            return what == 0 ? hits : (int) s;
        }

        int image() {
            if (day.isEmpty()) return STATE;
            keptDay = new ArrayList<>(day);
            keptTwists = new ArrayList<>();
            for (Vane v : vanes) keptTwists.add(v.twist);
            keptSeen = new ArrayList<>(seen);
            return vanes.size();
        }

        int restore() {
            if (keptDay == null) return STATE;
            day = new ArrayList<>(keptDay);
            vanes = new ArrayList<>(vanes.subList(0, keptTwists.size()));
            for (int v = 0; v < vanes.size(); v++) vanes.get(v).twist = keptTwists.get(v);
            seen = new ArrayList<>(keptSeen);
            return vanes.size();
        }

        int count(int what) {
            switch (what) {
                case 0: return day.size();
                case 1: return (int) day.stream().filter(w -> w != NONE).count();
                case 2: return vanes.size();
                case 3: return seen.size();
                case 4: return page.length();
                case 5: return readings;
                case 6: return inquiries;
                default: return OUTSIDE;
            }
        }

        long digest() {
            List<Integer> all = new ArrayList<>();
            for (int v = 0; v < vanes.size(); v++) {
                for (int what : new int[] {0, 1, 2, 3, 10, 11, 12, 13}) all.add(about(v, what));
                for (int h = 0; h < day.size(); h++) all.add(points(v, h));
            }
            for (int h = 0; h < day.size(); h++) all.add(blows(h));
            if (!day.isEmpty()) all.add(ways().size());
            for (char letter : page.toCharArray()) all.add((int) letter);
            for (int what = 0; what <= 6; what++) all.add(count(what));
            long h = 823;
            for (int it : all) h = 31 * h + it;
            return h;
        }
    }
}
