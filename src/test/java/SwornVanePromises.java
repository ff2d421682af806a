/** Each promise of the document by itself: ordinary calls, the edges that it names, and refusals. */
public final class SwornVanePromises {
    private static final int NONE = SwornVane.NONE;
    private static final int UNKNOWN = SwornVane.UNKNOWN;
    private static final int OUTSIDE = SwornVane.OUTSIDE;
    private static final int STATE = SwornVane.STATE;
    private static final int FULL = SwornVane.FULL;
    private static final int LOWEST = Integer.MIN_VALUE;
    private static final int HIGHEST = Integer.MAX_VALUE;

    private static int wrong = 0;

    private static void due(String what, long got, long want) {
        if (got != want) {
            wrong++;
            System.out.println(what + " answered " + got + ", due is " + want);
        }
    }

    /** A refused call answers its number, and the digest is what it was. */
    private static void refused(SwornVane x, long before, String what, long got, long want) {
        due(what, got, want);
        due("digest() behind " + what, x.digest(), before);
    }

    private static void spell(SwornVane x, String letters) {
        for (char letter : letters.toCharArray()) {
            x.letter(letter);
        }
    }

    private static SwornVane onDay(String letters) {
        SwornVane x = new SwornVane();
        spell(x, letters);
        due("day() of " + letters, x.day(), letters.length());
        return x;
    }

    public static void main(String[] args) {
        constants();
        newObject();
        letters();
        blanks();
        faults();
        days();
        winds();
        vanes();
        about();
        turningOverHours();
        casts();
        oils();
        sights();
        forgetting();
        fittings();
        pointsAndBlows();
        asking();
        proofs();
        sorts();
        inquiriesAreCounted();
        oilings();
        gusts();
        images();
        counts();
        digests();
        System.out.println(wrong == 0 ? "all promises hold" : wrong + " answers are not as due");
        if (wrong != 0) {
            System.exit(1);
        }
    }

    private static void constants() {
        due("NONE", NONE, -1);
        due("UNKNOWN", UNKNOWN, -101);
        due("OUTSIDE", OUTSIDE, -102);
        due("STATE", STATE, -103);
        due("FULL", FULL, -104);
    }

    // Promise 1
    private static void newObject() {
        SwornVane x = new SwornVane();
        for (int what = 0; what <= 6; what++) {
            due("new: count(" + what + ")", x.count(what), 0);
        }
        due("new: fitting()", x.fitting(), STATE);
        due("new: blows(0)", x.blows(0), UNKNOWN);
        due("new: points(0, 0)", x.points(0, 0), UNKNOWN);
        due("new: ask(0)", x.ask(0), STATE);
        due("new: restore()", x.restore(), STATE);
        due("new: forget()", x.forget(), 0);
        long h = 823;
        for (int i = 0; i < 7; i++) {
            h = 31 * h;
        }
        due("new: digest()", x.digest(), h);
    }

    // Promise 2
    private static void letters() {
        SwornVane x = new SwornVane();
        long before = x.digest();
        refused(x, before, "letter(31)", x.letter(31), OUTSIDE);
        refused(x, before, "letter(127)", x.letter(127), OUTSIDE);
        refused(x, before, "letter(LOWEST)", x.letter(LOWEST), OUTSIDE);
        refused(x, before, "letter(HIGHEST)", x.letter(HIGHEST), OUTSIDE);
        refused(x, before, "letter(110 + 65536)", x.letter(110 + 65536), OUTSIDE);
        due("letter(32)", x.letter(32), 1);
        due("letter(126)", x.letter(126), 2);
        for (int i = 3; i <= 8; i++) {
            due("letter " + i, x.letter('n'), i);
        }
        before = x.digest();
        refused(x, before, "letter(110) above 8", x.letter(110), FULL);
        refused(x, before, "letter(31) above 8", x.letter(31), OUTSIDE);
        due("blank()", x.blank(), 8);
        due("letter(110)", x.letter(110), 1);
    }

    // Promise 3
    private static void blanks() {
        SwornVane x = new SwornVane();
        due("blank()", x.blank(), 0);
        spell(x, "n!s");
        due("blank()", x.blank(), 3);
        due("blank() again", x.blank(), 0);
        due("count(4)", x.count(4), 0);
        SwornVane y = onDay("?e");
        y.vane(0, 0, 0);
        spell(y, "n");
        due("blank()", y.blank(), 1);
        due("count(0)", y.count(0), 2);
        due("count(2)", y.count(2), 1);
    }

    // Promise 4
    private static void faults() {
        String[] pages = {"", "n", "nesw?n", "N", "n n", "nesw?nn", "nesw?nxx", "xn", "????????", "neswn!n", "m", "nes-"};
        int[] places = {0, 1, 6, 0, 1, 6, 6, 0, 6, 5, 0, 3};
        for (int i = 0; i < pages.length; i++) {
            SwornVane x = new SwornVane();
            spell(x, pages[i]);
            due("fault() of " + pages[i], x.fault(), places[i]);
            due("count(4) of " + pages[i], x.count(4), pages[i].length());
        }
    }

    // Promise 5
    private static void days() {
        SwornVane x = new SwornVane();
        refused(x, x.digest(), "day() of nothing", x.day(), STATE);
        for (String page : new String[] {"x", "nesw?en", "n e", "nesw?x"}) {
            spell(x, page);
            refused(x, x.digest(), "day() of " + page, x.day(), STATE);
            due("count(4)", x.count(4), page.length());
            x.blank();
        }
        spell(x, "nesw?w");
        due("day()", x.day(), 6);
        due("count(4)", x.count(4), 0);
        due("count(1)", x.count(1), 5);
        int[] bits = {1, 2, 4, 8, 15, 8};
        for (int h = 0; h < 6; h++) {
            due("blows(" + h + ")", x.blows(h), bits[h]);
        }
        x.vane(3, 1, 2);
        x.see(0, 0, 2);
        spell(x, "!");
        refused(x, x.digest(), "day() over a DAY", x.day(), STATE);
        x.blank();
        spell(x, "?");
        due("fitting() ahead of another DAY", x.fitting(), 4);
        due("day()", x.day(), 1);
        due("blows(0) of another DAY", x.blows(0), 15);
        due("count(0)", x.count(0), 1);
        due("count(2)", x.count(2), 0);
        due("count(3)", x.count(3), 0);
        due("count(5)", x.count(5), 2);
        due("blows(1)", x.blows(1), UNKNOWN);
        x.vane(0, 1, 0);
        due("about(0, 3)", x.about(0, 3), 0);
        due("fitting()", x.fitting(), 4);
    }

    // Promise 6
    private static void winds() {
        SwornVane x = onDay("n?w");
        x.vane(0, 0, 0);
        long before = x.digest();
        refused(x, before, "wind(-1, 0)", x.wind(-1, 0), UNKNOWN);
        refused(x, before, "wind(3, 0)", x.wind(3, 0), UNKNOWN);
        refused(x, before, "wind(3, 9)", x.wind(3, 9), UNKNOWN);
        refused(x, before, "wind(0, 4)", x.wind(0, 4), OUTSIDE);
        refused(x, before, "wind(0, -2)", x.wind(0, -2), OUTSIDE);
        refused(x, before, "wind(LOWEST, 0)", x.wind(LOWEST, 0), UNKNOWN);
        refused(x, before, "wind(0, HIGHEST)", x.wind(0, HIGHEST), OUTSIDE);
        due("fitting()", x.fitting(), 4);
        due("wind(0, -1)", x.wind(0, NONE), 0);
        due("fitting()", x.fitting(), 16);
        due("wind(1, 3)", x.wind(1, 3), NONE);
        due("wind(1, 2)", x.wind(1, 2), 3);
        due("blows(1)", x.blows(1), 4);
        due("points(0, 1)", x.points(0, 1), 4);
        due("wind(2, 3)", x.wind(2, 3), 3);
        due("count(1)", x.count(1), 2);
        due("new: wind(0, 0)", new SwornVane().wind(0, 0), UNKNOWN);
    }

    // Promise 7
    private static void vanes() {
        SwornVane x = new SwornVane();
        due("vane(0, 0, 0) ahead of a DAY", x.vane(0, 0, 0), STATE);
        due("vane(5, 0, 0) ahead of a DAY", x.vane(5, 0, 0), OUTSIDE);
        spell(x, "?");
        x.day();
        long before = x.digest();
        int[][] bad = {{-1, 0, 0}, {5, 0, 0}, {0, -1, 0}, {0, 4, 0}, {0, 0, -1}, {0, 0, 4},
            {LOWEST, 0, 0}, {0, HIGHEST, 0}, {0, 0, LOWEST}};
        for (int[] b : bad) {
            refused(x, before, "vane outside", x.vane(b[0], b[1], b[2]), OUTSIDE);
        }
        due("vane(4, 3, 3)", x.vane(4, 3, 3), 0);
        due("vane(0, 0, 0)", x.vane(0, 0, 0), 1);
        due("vane(1, 2, 1)", x.vane(1, 2, 1), 2);
        due("vane(3, 1, 0)", x.vane(3, 1, 0), 3);
        before = x.digest();
        refused(x, before, "vane(0, 0, 0) above 4", x.vane(0, 0, 0), FULL);
        refused(x, before, "vane(0, 0, 4) above 4", x.vane(0, 0, 4), OUTSIDE);
        due("count(2)", x.count(2), 4);
    }

    // Promise 8, and the kinds in an HOUR
    private static void about() {
        SwornVane x = onDay("???");
        x.vane(4, 2, 3);
        x.vane(2, 1, 0);
        x.see(1, 0, 0);
        x.see(1, 0, 0);
        x.see(0, 2, 1);
        int[][] dues = {{4, 2, 3, 1}, {2, 1, 0, 2}};
        for (int v = 0; v < 2; v++) {
            for (int what = 0; what < 4; what++) {
                due("about(" + v + ", " + what + ")", x.about(v, what), dues[v][what]);
            }
        }
        long before = x.digest();
        for (int what : new int[] {-1, 4, 9, 14, LOWEST, LOWEST + 10, HIGHEST}) {
            refused(x, before, "about(0, " + what + ")", x.about(0, what), OUTSIDE);
        }
        refused(x, before, "about(2, 0)", x.about(2, 0), UNKNOWN);
        refused(x, before, "about(-1, 99)", x.about(-1, 99), UNKNOWN);
        // where each kind (a row for each TWIST) that points at 0 would turn by the WINDS 0 to 3
        String[][] turned = {
            {"0123", "0123", "0123", "0123"},
            {"0113", "0113", "0113", "0113"},
            {"0123", "0023", "0103", "0120"},
            {"0123", "1230", "2301", "3012"},
            {"0113", "1130", "1301", "3011"}};
        for (int kind = 0; kind < 5; kind++) {
            for (int twist = 0; twist < 4; twist++) {
                SwornVane y = onDay("n");
                y.vane(kind, 3, twist);
                StringBuilder got = new StringBuilder();
                for (int wind = 0; wind < 4; wind++) {
                    got.append(y.about(0, 10 + wind));
                }
                due("turns of kind " + kind + ", twist " + twist,
                        Integer.parseInt(got.toString()), Integer.parseInt(turned[kind][twist]));
            }
        }
    }

    private static void turningOverHours() {
        // the day s, n, w, w, e, n by kind, START and TWIST, in hours 0 to 5
        String day = "snwwen";
        int[][] vanes = {{0, 1, 2}, {1, 0, 0}, {1, 3, 0}, {2, 1, 3}, {3, 0, 1}, {4, 2, 3}};
        String[] at = {"203310", "103300", "233300", "200010", "310021", "122233"};
        for (int i = 0; i < vanes.length; i++) {
            SwornVane x = onDay(day);
            x.vane(vanes[i][0], vanes[i][1], vanes[i][2]);
            for (int h = 0; h < 6; h++) {
                due("vane " + i + " in hour " + h, x.points(0, h), 1 << at[i].charAt(h) - '0');
            }
        }
    }

    // Promise 9
    private static void casts() {
        SwornVane x = onDay("n");
        for (int kind = 4; kind >= 1; kind--) {
            x.vane(kind, 0, 0);
        }
        // own numbers 0 to 3 are COURT, OILED, LEE, RUSTY
        int[][] dues = {{0, NONE, NONE, 0, 0}, {1, NONE, NONE, 1, NONE}, {2, NONE, 2, NONE, NONE},
            {3, 3, NONE, NONE, NONE}};
        long before = x.digest();
        for (int v = 0; v < 4; v++) {
            for (int kind = 0; kind < 5; kind++) {
                due("as(" + v + ", " + kind + ")", x.as(v, kind), dues[v][kind]);
            }
        }
        refused(x, before, "as(4, 0)", x.as(4, 0), UNKNOWN);
        refused(x, before, "as(-1, 7)", x.as(-1, 7), UNKNOWN);
        refused(x, before, "as(0, 5)", x.as(0, 5), OUTSIDE);
        refused(x, before, "as(0, -1)", x.as(0, -1), OUTSIDE);
        SwornVane y = onDay("n");
        y.vane(0, 0, 0);
        due("as(0, 0) of a VANE", y.as(0, 0), 0);
        for (int kind = 1; kind < 5; kind++) {
            due("as(0, " + kind + ") of a VANE", y.as(0, kind), NONE);
        }
    }

    // Promise 10
    private static void oils() {
        SwornVane x = onDay("e?");
        x.vane(3, 0, 1);
        due("points(0, 0)", x.points(0, 0), 4);
        due("oil(0, 3)", x.oil(0, 3), 1);
        due("points(0, 0) oiled", x.points(0, 0), 1);
        due("about(0, 2)", x.about(0, 2), 3);
        due("oil(0, 3)", x.oil(0, 3), 3);
        x.see(0, 0, 1);
        due("fitting()", x.fitting(), 0);
        due("oil(0, 0)", x.oil(0, 0), 3);
        due("fitting() oiled", x.fitting(), 4);
        long before = x.digest();
        refused(x, before, "oil(1, 0)", x.oil(1, 0), UNKNOWN);
        refused(x, before, "oil(-1, 4)", x.oil(-1, 4), UNKNOWN);
        refused(x, before, "oil(0, 4)", x.oil(0, 4), OUTSIDE);
        refused(x, before, "oil(0, -1)", x.oil(0, -1), OUTSIDE);
    }

    // Promise 11
    private static void sights() {
        SwornVane x = onDay("??");
        x.vane(0, 0, 0);
        x.vane(3, 0, 1);
        long before = x.digest();
        refused(x, before, "see(2, 0, 0)", x.see(2, 0, 0), UNKNOWN);
        refused(x, before, "see(-1, 0, 0)", x.see(-1, 0, 0), UNKNOWN);
        refused(x, before, "see(0, 2, 0)", x.see(0, 2, 0), UNKNOWN);
        refused(x, before, "see(0, -1, 9)", x.see(0, -1, 9), UNKNOWN);
        refused(x, before, "see(0, 0, 4)", x.see(0, 0, 4), OUTSIDE);
        refused(x, before, "see(0, 0, -1)", x.see(0, 0, -1), OUTSIDE);
        due("see(1, 1, 0)", x.see(1, 1, 0), 1);
        due("blows(1)", x.blows(1), 8);
        due("points(0, 1)", x.points(0, 1), 8);
        for (int i = 2; i <= 10; i++) {
            due("see(1, 1, 0) again", x.see(1, 1, 0), i);
        }
        due("fitting()", x.fitting(), 4);
        due("about(1, 3)", x.about(1, 3), 10);
        before = x.digest();
        refused(x, before, "see(0, 0, 0) above 10", x.see(0, 0, 0), FULL);
        refused(x, before, "see(0, 0, 4) above 10", x.see(0, 0, 4), OUTSIDE);
        refused(x, before, "see(0, 2, 0) above 10", x.see(0, 2, 0), UNKNOWN);
    }

    // Promise 12
    private static void forgetting() {
        SwornVane x = onDay("??");
        x.vane(0, 0, 0);
        x.see(0, 0, 0);
        x.see(0, 0, 1);
        x.see(0, 1, 1);
        due("fitting()", x.fitting(), 0);
        due("forget()", x.forget(), 3);
        due("fitting()", x.fitting(), 16);
        due("about(0, 3)", x.about(0, 3), 0);
        due("count(3)", x.count(3), 0);
        due("forget() again", x.forget(), 0);
        due("see(0, 0, 1)", x.see(0, 0, 1), 1);
        due("blows(0)", x.blows(0), 2);
    }

    // Promise 13
    private static void fittings() {
        due("fitting() ahead of a DAY", new SwornVane().fitting(), STATE);
        due("fitting() without VANES", onDay("??????").fitting(), 4096);
        due("fitting() of a known DAY", onDay("nesw").fitting(), 1);
        SwornVane x = onDay("???");
        x.vane(1, 0, 0);
        x.see(0, 0, 1);
        due("fitting() of a RUSTY at 1", x.fitting(), 32);
        x.see(0, 2, 3);
        // from 1 in two hours to 3: right and right (2 WINDS each), or left and left (1 each)
        due("fitting() of a RUSTY then at 3", x.fitting(), 2 * 5);
        x.wind(0, 0);
        due("fitting() with a known WIND against it", x.fitting(), 0);
        x.wind(0, 2);
        due("fitting() with a known WIND for it", x.fitting(), 5);
    }

    // Promises 14 and 15
    private static void pointsAndBlows() {
        SwornVane x = onDay("?e?");
        x.vane(1, 3, 0);
        x.vane(2, 2, 1);
        // RUSTY from 3: at 3, 0, 0 or 2 by the WINDS 3, 0, 1, 2
        due("points(0, 0)", x.points(0, 0), 0b1101);
        due("points(0, 1)", x.points(0, 1), 0b0011);
        due("points(1, 0)", x.points(1, 0), 0b1101);
        due("points(1, 1)", x.points(1, 1), 0b1101);
        due("blows(0)", x.blows(0), 15);
        due("blows(1)", x.blows(1), 2);
        x.see(0, 1, 1);
        // it was at 0 or 2 ahead of that, by a WIND of 0, 1 or 2
        due("points(0, 0) SEEN", x.points(0, 0), 0b0101);
        due("blows(0) SEEN", x.blows(0), 0b0111);
        x.see(1, 1, 0);
        due("blows(0) SEEN twice", x.blows(0), 1);
        due("points(0, 0) SEEN twice", x.points(0, 0), 1);
        due("points(1, 2)", x.points(1, 2), 0b1101);
        x.see(1, 2, 1);
        due("points(0, 0) of none", x.points(0, 0), 0);
        due("blows(2) of none", x.blows(2), 0);
        long before = x.digest();
        refused(x, before, "points(2, 0)", x.points(2, 0), UNKNOWN);
        refused(x, before, "points(-1, 0)", x.points(-1, 0), UNKNOWN);
        refused(x, before, "points(0, 3)", x.points(0, 3), UNKNOWN);
        refused(x, before, "points(0, -1)", x.points(0, -1), UNKNOWN);
        refused(x, before, "blows(3)", x.blows(3), UNKNOWN);
        refused(x, before, "blows(-1)", x.blows(-1), UNKNOWN);
        refused(x, before, "blows(LOWEST)", x.blows(LOWEST), UNKNOWN);
    }

    // Promise 16
    private static void asking() {
        SwornVane x = onDay("n??");
        refused(x, x.digest(), "ask(0) without VANES", x.ask(0), STATE);
        refused(x, x.digest(), "ask(3) without VANES", x.ask(3), OUTSIDE);
        x.vane(1, 0, 0);
        x.vane(3, 0, 2);
        x.vane(0, 0, 0);
        refused(x, x.digest(), "ask(-1)", x.ask(-1), OUTSIDE);
        refused(x, x.digest(), "ask(3)", x.ask(3), OUTSIDE);
        // an OILED one in hour 1 leaves 4 of 16 (so does hour 2, and the VANE behind it)
        due("ask(0)", x.ask(0), 1);
        due("ask(1)", x.ask(1), 1);
        due("ask(2)", x.ask(2), 4);
        x.see(1, 1, 0);
        due("ask(0) behind it", x.ask(0), 1);
        due("ask(1) behind it", x.ask(1), 2);
        due("ask(2) behind it", x.ask(2), 1);
        x.see(1, 2, 0);
        due("ask(0) of one", x.ask(0), 0);
        due("ask(1) of one", x.ask(1), 0);
        due("ask(2) of one", x.ask(2), 1);
        x.see(1, 2, 1);
        for (int what = 0; what < 3; what++) {
            due("ask(" + what + ") of none", x.ask(what), NONE);
        }
        due("count(6)", x.count(6), 12);
    }

    // Promise 17
    private static void proofs() {
        SwornVane x = onDay("n?");
        refused(x, x.digest(), "proof(0, 0) without VANES", x.proof(0, 0), STATE);
        refused(x, x.digest(), "proof(0, 2) without VANES", x.proof(0, 2), OUTSIDE);
        refused(x, x.digest(), "proof(2, 2)", x.proof(2, 2), UNKNOWN);
        refused(x, x.digest(), "proof(-1, 0)", x.proof(-1, 0), UNKNOWN);
        x.vane(1, 0, 0);
        refused(x, x.digest(), "proof(0, -1)", x.proof(0, -1), OUTSIDE);
        due("proof(0, 0) of a known WIND", x.proof(0, 0), 0);
        due("proof(0, 1) of a known WIND", x.proof(0, 1), 0);
        due("proof(1, 0) of a RUSTY", x.proof(1, 0), NONE);
        due("proof(1, 1) of a RUSTY", x.proof(1, 1), NONE);
        // the LEE is at 0 then, which is its TWIST: it tells all WINDS apart
        x.vane(2, 0, 0);
        due("proof(1, 0) by a LEE", x.proof(1, 0), 1);
        due("proof(1, 1) by a LEE", x.proof(1, 1), 2);
        x.oil(1, 3);
        // at 0 still: the WINDS 0 and 3 are one to the LEE, 1 and 2 to the RUSTY
        due("proof(1, 0) by two", x.proof(1, 0), 2);
        due("proof(1, 1) by two", x.proof(1, 1), 3);
        x.vane(3, 0, 3);
        x.vane(0, 0, 0);
        due("proof(1, 0) by an OILED", x.proof(1, 0), 1);
        due("proof(1, 1) by an OILED", x.proof(1, 1), 4);
        x.see(2, 1, 0);
        due("proof(1, 1) of a SEEN WIND", x.proof(1, 1), 0);
        x.see(2, 1, 1);
        due("proof(1, 0) of none", x.proof(1, 0), NONE);
        due("proof(0, 1) of none", x.proof(0, 1), NONE);
        laterHoursProve();
    }

    private static void laterHoursProve() {
        // a RUSTY from 0, two hours on at 2: it was at 1, by WINDS 1 or 2; at 3 or 1 or 0 otherwise
        SwornVane x = onDay("?n");
        x.vane(1, 0, 0);
        x.vane(2, 1, 0);
        // LEE, TWIST 0, START 1, by WIND 0 stays at 1, by 1 too, 2 and 3 are told apart
        due("proof(0, 1)", x.proof(0, 1), 3);
        // what is SEEN of others in later hours speaks of the hour, too
        SwornVane y = onDay("?n");
        y.vane(1, 0, 0);
        y.vane(2, 3, 0);
        y.see(1, 1, 1);
        // the LEE stayed at 1 in hour 1, so it was there in hour 0 by WIND 1
        due("proof(0, 1) by what is SEEN later", y.proof(0, 1), 0);
        due("blows(0) by what is SEEN later", y.blows(0), 2);
    }

    // Promise 18
    private static void sorts() {
        SwornVane x = onDay("e?");
        x.vane(0, 0, 0);
        x.vane(0, 0, 0);
        due("sorts(0, 0) of all", x.sorts(0, 0), 20);
        due("sorts(0, 1) of all", x.sorts(0, 1), 0);
        x.see(0, 0, 0);
        // at 0 from START 0 by WIND 1: LEE 1, OILED 3, COURT 3
        due("sorts(0, 0)", x.sorts(0, 0), 3);
        due("sorts(0, 1)", x.sorts(0, 1), 9);
        due("about(0, 0)", x.about(0, 0), 0);
        due("about(0, 2)", x.about(0, 2), 0);
        due("sorts(1, 0) of another", x.sorts(1, 0), 0);
        due("sorts(1, 1) of another", x.sorts(1, 1), NONE);
        x.vane(4, 2, 3);
        due("sorts(2, 1) of a third", x.sorts(2, 1), NONE);
        due("about(2, 0)", x.about(2, 0), 4);
        due("about(2, 2)", x.about(2, 2), 3);
        x.forget();
        x.see(0, 0, 3);
        // at 3 from 0 by WIND 1: OILED 2, COURT 2
        due("sorts(0, 0) at 3", x.sorts(0, 0), 2);
        due("sorts(0, 1) at 3", x.sorts(0, 1), 14);
        due("fitting()", x.fitting(), 0);
        long before = x.digest();
        refused(x, before, "sorts(3, 0)", x.sorts(3, 0), UNKNOWN);
        refused(x, before, "sorts(-1, 5)", x.sorts(-1, 5), UNKNOWN);
        refused(x, before, "sorts(0, 2)", x.sorts(0, 2), OUTSIDE);
        refused(x, before, "sorts(0, -1)", x.sorts(0, -1), OUTSIDE);
    }

    private static void inquiriesAreCounted() {
        SwornVane x = onDay("?");
        x.vane(0, 0, 0);
        x.image();
        for (int i = 0; i < 10; i++) {
            due("ask(2)", x.ask(2), 1);
            due("proof(0, 1)", x.proof(0, 1), 1);
            due("sorts(0, 0)", x.sorts(0, 0), 20);
            x.ask(3);
            x.proof(9, 0);
            x.sorts(0, 2);
            x.restore();
        }
        due("count(6)", x.count(6), 30);
        long before = x.digest();
        refused(x, before, "ask(0) above 30", x.ask(0), STATE);
        refused(x, before, "ask(9) above 30", x.ask(9), OUTSIDE);
        refused(x, before, "proof(0, 0) above 30", x.proof(0, 0), STATE);
        refused(x, before, "proof(1, 9) above 30", x.proof(1, 9), UNKNOWN);
        refused(x, before, "proof(0, 9) above 30", x.proof(0, 9), OUTSIDE);
        refused(x, before, "sorts(0, 0) above 30", x.sorts(0, 0), STATE);
        refused(x, before, "sorts(1, 9) above 30", x.sorts(1, 9), UNKNOWN);
        refused(x, before, "sorts(0, 9) above 30", x.sorts(0, 9), OUTSIDE);
        x.restore();
        due("ask(0) restored", x.ask(0), STATE);
        spell(x, "?");
        x.day();
        x.vane(0, 0, 0);
        due("ask(0) on another DAY", x.ask(0), STATE);
        due("oiling(0, 0, 0) is not counted", x.oiling(0, 0, 0), STATE);
        x.wind(0, 1);
        due("oiling(0, 1, 0) is not counted", x.oiling(0, 1, 0), 0);
    }

    // Promise 19
    private static void oilings() {
        SwornVane x = onDay("es?n");
        refused(x, x.digest(), "oiling(0, 0, 0) without VANES", x.oiling(0, 0, 0), STATE);
        refused(x, x.digest(), "oiling(0, 4, 0) without VANES", x.oiling(0, 4, 0), OUTSIDE);
        x.vane(3, 0, 0);
        x.vane(2, 0, 2);
        x.vane(0, 0, 0);
        x.vane(3, 0, 1);
        long before = x.digest();
        refused(x, before, "oiling(4, 0, 0)", x.oiling(4, 0, 0), UNKNOWN);
        refused(x, before, "oiling(-1, 4, 2)", x.oiling(-1, 4, 2), UNKNOWN);
        refused(x, before, "oiling(0, -1, 0)", x.oiling(0, -1, 0), OUTSIDE);
        refused(x, before, "oiling(0, 4, 0)", x.oiling(0, 4, 0), OUTSIDE);
        refused(x, before, "oiling(0, 0, 2)", x.oiling(0, 0, 2), OUTSIDE);
        refused(x, before, "oiling(0, 0, -1)", x.oiling(0, 0, -1), OUTSIDE);
        refused(x, before, "oiling(2, 4, 0)", x.oiling(2, 4, 0), OUTSIDE);
        refused(x, before, "oiling(2, 0, 0)", x.oiling(2, 0, 0), STATE);
        refused(x, before, "oiling(3, 0, 0)", x.oiling(3, 0, 0), STATE);
        // hour 0: at 1, 1, 1, 2
        due("oiling(0, 1, 0)", x.oiling(0, 1, 0), 0);
        due("oiling(0, 1, 1)", x.oiling(0, 1, 1), 0);
        // hour 1: at 2, 1, 2, 3; two of four are no more than half
        due("oiling(1, 2, 0)", x.oiling(1, 2, 0), 1);
        due("oiling(1, 2, 1)", x.oiling(1, 2, 1), 2);
        // at 1 is the LEE; both OILED ones must become another
        due("oiling(1, 1, 0)", x.oiling(1, 1, 0), 2);
        due("oiling(1, 1, 1)", x.oiling(1, 1, 1), 9);
        // at 0 the LEE only by TWIST 1 (it stays in hour 0), where WIND 2 takes it to 2
        due("oiling(1, 0, 0)", x.oiling(1, 0, 0), NONE);
        due("oiling(1, 0, 1)", x.oiling(1, 0, 1), NONE);
        due("oiling(0, 0, 0)", x.oiling(0, 0, 0), 3);
        due("oiling(0, 0, 1)", x.oiling(0, 0, 1), 11);
        due("about(0, 2)", x.about(0, 2), 0);
        due("digest()", x.digest(), before);
        // what is SEEN does not matter
        x.see(0, 0, 3);
        due("oiling(0, 1, 0)", x.oiling(0, 1, 0), 0);
    }

    // Promise 20
    private static void gusts() {
        SwornVane x = new SwornVane();
        due("gusts(1, 0, 0) ahead of a DAY", x.gusts(1, 0, 0), STATE);
        due("gusts(0, 0, 0) ahead of a DAY", x.gusts(0, 0, 0), OUTSIDE);
        spell(x, "?n");
        x.day();
        long before = x.digest();
        refused(x, before, "gusts(0, 0, 0)", x.gusts(0, 0, 0), OUTSIDE);
        refused(x, before, "gusts(41, 0, 0)", x.gusts(41, 0, 0), OUTSIDE);
        refused(x, before, "gusts(1, -1, 0)", x.gusts(1, -1, 0), OUTSIDE);
        refused(x, before, "gusts(1, LOWEST, 0)", x.gusts(1, LOWEST, 0), OUTSIDE);
        refused(x, before, "gusts(1, 0, 2)", x.gusts(1, 0, 2), OUTSIDE);
        refused(x, before, "gusts(1, 0, -1)", x.gusts(1, 0, -1), OUTSIDE);
        due("gusts(40, 5, 0) without VANES", x.gusts(40, 5, 0), 0);
        due("gusts(1, 0, 1)", x.gusts(1, 0, 1), 12345);
        due("gusts(2, 0, 1)", x.gusts(2, 0, 1), 1406932606);
        due("gusts(1, HIGHEST, 1)", x.gusts(1, HIGHEST, 1), 1043980748);
        x.vane(3, 0, 0);
        due("gusts(40, 5, 0) of a true one", x.gusts(40, 5, 0), 80);
        x.vane(3, 0, 1);
        due("gusts(40, 5, 0) of one of two", x.gusts(40, 5, 0), 0);
        x.see(0, 1, 3);
        due("gusts(40, 5, 0) with what is SEEN", x.gusts(40, 5, 0), 0);
        x.oil(1, 0);
        due("gusts(40, 5, 0) of both", x.gusts(40, 5, 0), 80);
        due("gusts(40, 5, 0) of a known DAY", knownGusts(), 40);
        due("gusts of a RUSTY", rustyGusts(3, 9), x3(9));
    }

    /** Only in hour 1 of a known DAY the RUSTY one is where the WIND is; ahead of each it is at START. */
    private static int knownGusts() {
        SwornVane x = onDay("sen");
        x.vane(1, 3, 0);
        due("the SEED of a known DAY", x.gusts(7, 99, 1), 99);
        // at 2, 1, 0 from 3: all three; so START 0: at 1, 1, 0
        due("gusts(40, 5, 0) from 3", x.gusts(40, 5, 0), 120);
        SwornVane y = onDay("se");
        y.vane(1, 0, 0);
        return y.gusts(40, 5, 0);
    }

    private static int rustyGusts(int days, int seed) {
        SwornVane x = onDay("??");
        x.vane(1, 0, 0);
        return x.gusts(days, seed, 0);
    }

    /** Three DAYS of two drawn HOURS each, gone through by hand for a RUSTY from 0. */
    private static int x3(long seed) {
        int hits = 0;
        for (int day = 0; day < 3; day++) {
            int at = 0;
            for (int hour = 0; hour < 2; hour++) {
                seed = (1103515245L * seed + 12345L) % (1L << 31);
                int wind = (int) (seed / 65536 % 4);
                at = wind == at ? at : wind == (at + 3) % 4 ? wind : (at + 1) % 4;
                hits += at == wind ? 1 : 0;
            }
        }
        return hits;
    }

    // Promises 21 and 22
    private static void images() {
        SwornVane x = new SwornVane();
        due("image() ahead of a DAY", x.image(), STATE);
        due("restore() ahead of an IMAGE", x.restore(), STATE);
        spell(x, "n?");
        x.day();
        due("restore() ahead of an IMAGE", x.restore(), STATE);
        x.vane(3, 1, 2);
        x.see(0, 1, 3);
        long before = x.digest();
        due("image()", x.image(), 1);
        due("digest() behind image()", x.digest(), before);
        x.wind(1, 2);
        x.wind(0, NONE);
        x.oil(0, 0);
        due("vane(4, 2, 1)", x.vane(4, 2, 1), 1);
        x.see(1, 1, 1);
        due("fitting() behind image()", x.fitting(), 0);
        due("restore()", x.restore(), 1);
        due("digest() behind restore()", x.digest(), before);
        due("about(1, 0) behind restore()", x.about(1, 0), UNKNOWN);
        due("vane(0, 3, 0)", x.vane(0, 3, 0), 1);
        due("about(1, 0)", x.about(1, 0), 0);
        due("about(1, 3)", x.about(1, 3), 0);
        due("points(1, 1)", x.points(1, 1), 2);
        x.forget();
        due("restore() again", x.restore(), 1);
        due("digest() behind restore() again", x.digest(), before);
        // the latest IMAGE; the page, readings and inquiries go on
        x.oil(0, 1);
        due("image() again", x.image(), 1);
        x.oil(0, 3);
        spell(x, "ab");
        x.ask(0);
        due("restore()", x.restore(), 1);
        due("about(0, 2)", x.about(0, 2), 1);
        due("count(4)", x.count(4), 2);
        due("count(6)", x.count(6), 1);
        due("day() refused", x.day(), STATE);
        due("restore() behind a refused day()", x.restore(), 1);
        x.blank();
        spell(x, "n?");
        x.day();
        refused(x, x.digest(), "restore() behind another DAY", x.restore(), STATE);
        due("image() without VANES", x.image(), 0);
        x.vane(0, 0, 0);
        due("restore() without VANES", x.restore(), 0);
        due("count(2)", x.count(2), 0);
        due("count(5)", x.count(5), 2);
    }

    // Promise 23
    private static void counts() {
        SwornVane x = onDay("n?e?w");
        x.vane(0, 0, 0);
        x.vane(1, 0, 0);
        x.see(0, 0, 0);
        x.see(1, 0, 0);
        x.see(1, 1, 0);
        spell(x, "nnnn");
        x.ask(0);
        x.proof(0, 0);
        x.sorts(0, 0);
        x.ask(1);
        x.sorts(1, 1);
        x.sorts(1, 1);
        int[] dues = {5, 3, 2, 3, 4, 1, 6};
        long before = x.digest();
        for (int what = 0; what < dues.length; what++) {
            due("count(" + what + ")", x.count(what), dues[what]);
        }
        for (int what : new int[] {-1, 7, LOWEST, HIGHEST}) {
            refused(x, before, "count(" + what + ")", x.count(what), OUTSIDE);
        }
    }

    // Promise 24
    private static void digests() {
        SwornVane x = onDay("w?");
        x.vane(4, 0, 1);
        x.see(0, 0, 0);
        spell(x, "n~");
        x.ask(0);
        // a COURT, TWIST 1, from 0: WIND w has goal 0; then it turns to 1, 1 (behind), 3, 0
        long[] told = {
            4, 0, 1, 1, 1, 1, 3, 0, 1, 0b1011,
            8, 15,
            4,
            'n', '~',
            2, 1, 1, 1, 2, 1, 1};
        long h = 823;
        for (long it : told) {
            h = 31 * h + it;
        }
        due("digest()", x.digest(), h);
        due("digest() again", x.digest(), h);
        h = 823;
        for (long it : new long[] {15, 4, 1, 0, 0, 0, 0, 1, 0}) {
            h = 31 * h + it;
        }
        due("digest() of one hour", onDay("?").digest(), h);
    }
}
