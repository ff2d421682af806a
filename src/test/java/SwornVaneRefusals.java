/**
 * Every call in objects of many states, with numbers around each bound that the document names, in all combinations:
 * refused is what is to be, by the first refusal that the call tells, and a refused call changes nothing.
 */
public final class SwornVaneRefusals {
    private static final int NOT_REFUSED = 0;

    private static final int[] NUMBERS = {Integer.MIN_VALUE, Integer.MIN_VALUE + 1, -102, -2, -1, 0, 1, 2, 3, 4, 5, 6,
        7, 9, 10, 13, 14, 31, 32, 40, 41, 126, 127, Integer.MAX_VALUE};

    private static final String[] CALLS = {"blank", "fault", "day", "forget", "fitting", "image", "restore", "letter",
        "blows", "ask", "count", "wind", "about", "as", "oil", "points", "proof", "sorts", "vane", "see", "oiling",
        "gusts"};

    private static long calls = 0;
    private static int wrong = 0;

    public static void main(String[] args) {
        State[] states = {
            new State("", 0, 0, 0, "", false),
            new State("", 0, 0, 0, "nnnnnnnn", false),
            new State("n", 0, 0, 0, "", false),
            new State("?", 0, 0, 0, "x", true),
            new State("?", 1, 0, 0, "n", false),
            new State("ne??", 1, 10, 30, "", true),
            new State("nesw?n", 4, 0, 29, "nesw?nn", true),
            new State("nesw?n", 4, 10, 0, "nesw?!", false),
            new State("nesw?n", 4, 10, 30, "nnnnnnnn", true)};
        for (State state : states) {
            for (String name : CALLS) {
                tryAll(state, name, new int[numbersOf(name)], 0);
            }
        }
        System.out.println(calls + " calls, " + wrong + " wrong");
        if (wrong != 0) {
            System.exit(1);
        }
    }

    private static void tryAll(State state, String name, int[] n, int place) {
        if (wrong > 20) {
            return;
        }
        if (place == n.length) {
            tryOne(state, name, n);
            return;
        }
        for (int number : NUMBERS) {
            n[place] = number;
            tryAll(state, name, n, place + 1);
        }
    }

    private static void tryOne(State state, String name, int[] n) {
        calls++;
        SwornVane x = state.made();
        long before = x.digest();
        int due = state.refusal(name, n);
        int got = answer(x, name, n);
        boolean isRefused = got <= SwornVane.UNKNOWN && got >= SwornVane.FULL;
        String told = name + java.util.Arrays.toString(n) + " in " + state;
        check(told + " answered " + got + ", refused by " + due, due == (isRefused ? got : NOT_REFUSED));
        if (isRefused) {
            check(told + " changed something", x.digest() == before);
            check(told + " changed the image", x.restore() == (state.isKept ? state.vanes : SwornVane.STATE));
            check(told + " changed what the image is", x.digest() == before);
        }
    }

    private static void check(String what, boolean holds) {
        if (!holds) {
            wrong++;
            System.out.println(what);
        }
    }

    private static int numbersOf(String name) {
        switch (name) {
            case "letter": case "blows": case "ask": case "count":
                return 1;
            case "wind": case "about": case "as": case "oil": case "points": case "proof": case "sorts":
                return 2;
            case "vane": case "see": case "oiling": case "gusts":
                return 3;
            default:
                return 0;
        }
    }

    private static int answer(SwornVane x, String name, int[] n) {
        switch (name) {
            case "letter": return x.letter(n[0]);
            case "blank": return x.blank();
            case "fault": return x.fault();
            case "day": return x.day();
            case "wind": return x.wind(n[0], n[1]);
            case "vane": return x.vane(n[0], n[1], n[2]);
            case "about": return x.about(n[0], n[1]);
            case "as": return x.as(n[0], n[1]);
            case "oil": return x.oil(n[0], n[1]);
            case "see": return x.see(n[0], n[1], n[2]);
            case "forget": return x.forget();
            case "fitting": return x.fitting();
            case "points": return x.points(n[0], n[1]);
            case "blows": return x.blows(n[0]);
            case "ask": return x.ask(n[0]);
            case "proof": return x.proof(n[0], n[1]);
            case "sorts": return x.sorts(n[0], n[1]);
            case "oiling": return x.oiling(n[0], n[1], n[2]);
            case "gusts": return x.gusts(n[0], n[1], n[2]);
            case "image": return x.image();
            case "restore": return x.restore();
            case "count": return x.count(n[0]);
            default: throw new IllegalArgumentException(name);
        }
    }

    /** What an object was made by, and what it is to refuse. */
    private static final class State {
        final String day;
        final int vanes;
        final int seen;
        final int inquiries;
        final String page;
        final boolean isKept;

        State(String day, int vanes, int seen, int inquiries, String page, boolean isKept) {
            this.day = day;
            this.vanes = vanes;
            this.seen = seen;
            this.inquiries = inquiries;
            this.page = page;
            this.isKept = isKept;
        }

        @Override
        public String toString() {
            return "\"" + day + "\" with " + vanes + " vanes, " + seen + " seen, " + inquiries + " asked, page \""
                    + page + "\"" + (isKept ? ", image" : "");
        }

        SwornVane made() {
            SwornVane x = new SwornVane();
            spell(x, day);
            x.day();
            for (int v = 0; v < vanes; v++) {
                x.vane(4 - v, v, 1);
            }
            for (int i = 0; i < seen; i++) {
                x.see(i % vanes, 0, 1);
            }
            for (int i = 0; i < inquiries; i++) {
                x.ask(0);
            }
            if (isKept) {
                x.image();
            }
            spell(x, page);
            return x;
        }

        private static void spell(SwornVane x, String letters) {
            for (char letter : letters.toCharArray()) {
                x.letter(letter);
            }
        }

        int refusal(String name, int[] n) {
            switch (name) {
                case "letter": return first(false, !in(n[0], 32, 126), false, page.length() == 8);
                case "day": return first(false, false, !page.matches("[nesw?]{1,6}"), false);
                case "wind": return first(!isHour(n[0]), !in(n[1], -1, 3), false, false);
                case "vane":
                    return first(false, !in(n[0], 0, 4) || !isQuarter(n[1]) || !isQuarter(n[2]), day.isEmpty(),
                            vanes == 4);
                case "about": return first(!isVane(n[0]), !in(n[1], 0, 3) && !in(n[1], 10, 13), false, false);
                case "as": return first(!isVane(n[0]), !in(n[1], 0, 4), false, false);
                case "oil": return first(!isVane(n[0]), !isQuarter(n[1]), false, false);
                case "see":
                    return first(!isVane(n[0]) || !isHour(n[1]), !isQuarter(n[2]), false, seen == 10);
                case "fitting": case "image": return first(false, false, day.isEmpty(), false);
                case "points": return first(!isVane(n[0]) || !isHour(n[1]), false, false, false);
                case "blows": return first(!isHour(n[0]), false, false, false);
                case "ask": return first(false, !in(n[0], 0, 2), isClosed(), false);
                case "proof": return first(!isHour(n[0]), !in(n[1], 0, 1), isClosed(), false);
                case "sorts": return first(!isVane(n[0]), !in(n[1], 0, 1), isClosed(), false);
                case "oiling":
                    return first(!isHour(n[0]), !isQuarter(n[1]) || !in(n[2], 0, 1), vanes == 0 || !isKnownUntil(n[0]),
                            false);
                case "gusts":
                    return first(false, !in(n[0], 1, 40) || n[1] < 0 || !in(n[2], 0, 1), day.isEmpty(), false);
                case "restore": return first(false, false, !isKept, false);
                case "count": return first(false, !in(n[0], 0, 6), false, false);
                default: return NOT_REFUSED;
            }
        }

        private static int first(boolean isUnknown, boolean isOutside, boolean isState, boolean isFull) {
            return isUnknown ? SwornVane.UNKNOWN : isOutside ? SwornVane.OUTSIDE : isState ? SwornVane.STATE
                    : isFull ? SwornVane.FULL : NOT_REFUSED;
        }

        private static boolean in(int number, int least, int most) {
            return number >= least && number <= most;
        }

        private static boolean isQuarter(int number) {
            return in(number, 0, 3);
        }

        private boolean isHour(int number) {
            return in(number, 0, day.length() - 1);
        }

        private boolean isVane(int number) {
            return in(number, 0, vanes - 1);
        }

        private boolean isClosed() {
            return vanes == 0 || inquiries == 30;
        }

        private boolean isKnownUntil(int hour) {
            return !isHour(hour) || day.substring(0, hour + 1).indexOf('?') < 0;
        }
    }
}
