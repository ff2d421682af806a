import java.math.BigInteger;

/**
 * Each sentence of the document that names a boundary, by runs of its own. A run is told in lines, "see 0 0 1 = 2":
 * the call, its numbers, behind "=" the answer that is due (without one: any that is no refusal).
 *
 * <p>A twin of the object gets all calls but the refused ones; in the end both must be alike in all that can be told.
 */
public final class SwornVaneEdges {
    private static final int MOST_CALLS = 512;

    private static int edges = 0;
    private static int wrong = 0;

    public static void main(String[] args) {
        quarters();
        dayTexts();
        hourNumbers();
        vaneNumbers();
        kindsTurn();
        sightings();
        newObject();
        letters();
        pages();
        faults();
        days();
        winds();
        vanes();
        tellingOfVanes();
        casts();
        oils();
        seeing();
        forgetting();
        fittings();
        pointsAndBlows();
        asking();
        proofs();
        proofsByMany();
        sorts();
        inquiriesRunOut();
        oilings();
        oilingsByMoreThanHalf();
        gusts();
        seedsWrap();
        gustsByMoreThanHalf();
        images();
        restores();
        counts();
        digests();
        lastCall();
        System.out.println(edges + " edges, " + (wrong == 0 ? "all hold" : wrong + " do not hold"));
        if (wrong != 0) {
            System.exit(1);
        }
    }

    // ---- Terms

    private static void quarters() {
        edge("behind 3 it is 0: 0 is the next one to the right of 3",
                "on n", "vane 1 3 0", "points 0 0 = {0}");
        edge("behind 3 it is 0: 3 is the next one to the left of 0",
                "on w", "vane 1 0 0", "points 0 0 = {3}");
        edge("behind 3 it is 0: 1 lies behind 3, to the right of which is 0",
                "on e", "vane 1 3 0", "points 0 0 = {0}");
        edge("behind 3 it is 0: 0 lies behind 2, to the right of which is 3",
                "on n", "vane 1 2 0", "points 0 0 = {3}");
        edge("as many QUARTERS to the right of the WIND as TWIST is, from 3 on",
                "on w", "vane 3 0 0", "points 0 0 = {3}", "oil 0 1", "points 0 0 = {0}",
                "oil 0 2", "points 0 0 = {1}", "oil 0 3", "points 0 0 = {2}");
        edge("as many QUARTERS to the right of the WIND as TWIST is, up to 3 and behind it",
                "on n", "vane 3 0 3", "points 0 0 = {3}", "wind 0 1", "points 0 0 = {0}",
                "wind 0 2", "points 0 0 = {1}");
        edge("a COURT turns to where it would point, OILED: behind 3 that is 0",
                "on w", "vane 4 3 1", "points 0 0 = {0}", "oil 0 0", "points 0 0 = {3}");
        edge("a COURT turns to the left of 0", "on s", "vane 4 0 1", "points 0 0 = {3}");
        edge("a COURT turns to the right of 3, if it is to turn behind it",
                "on s", "vane 4 3 3", "points 0 0 = {0}");
    }

    private static void dayTexts() {
        edge("one to six letters: one", "page n", "day = 1", "count 0 = 1", "blows 0 = {0}");
        edge("one to six letters: six", "page nesw?n", "day = 6", "count 0 = 6", "blows 5 = {0}");
        edge("one to six letters: none is no DAY", "day = STATE", "count 5 = 0");
        edge("one to six letters: seven are no DAY", "page nesw?nn", "day = STATE", "count 0 = 0", "count 4 = 7");
        edge("one to six letters: eight are no DAY", "page ????????", "day = STATE", "count 0 = 0", "count 4 = 8");
        edge("\"n\", \"e\", \"s\", \"w\" are the WINDS 0 to 3",
                "on nesw", "blows 0 = {0}", "blows 1 = {1}", "blows 2 = {2}", "blows 3 = {3}", "count 1 = 4");
        edge("\"?\" is not known", "on ?", "blows 0 = {0,1,2,3}", "count 1 = 0", "wind 0 0 = NONE");
        for (int code = 32; code <= 126; code++) {
            boolean isOfDay = "nesw?".indexOf(code) >= 0;
            edge("no other letters stand in a DAY: " + code,
                    "letter " + code, "fault = " + (isOfDay ? 1 : 0), "day = " + (isOfDay ? "1" : "STATE"));
            edge("no other letters stand in a DAY, as its last one: " + code,
                    "page nnnnn", "letter " + code, "fault = " + (isOfDay ? 6 : 5),
                    "day = " + (isOfDay ? "6" : "STATE"));
        }
        edge("At first there is none", "fitting = STATE", "count 0 = 0", "blows 0 = UNKNOWN");
    }

    private static void hourNumbers() {
        edge("numbered from 0: the first and the last of one HOUR",
                "on n", "vane 0 0 0", "wind 0 1 = 0", "see 0 0 1 = 1", "points 0 0 = {1}", "blows 0 = {1}",
                "proof 0 0 = 0", "oiling 0 1 0 = 0");
        edge("numbered from 0: the last of six HOURS",
                "on nesw?n", "vane 0 0 0", "wind 5 1 = 0", "see 0 5 1 = 1", "points 0 5 = {1}", "blows 5 = {1}",
                "proof 5 0 = 0", "wind 4 0 = NONE", "oiling 5 1 0 = 0");
        for (String day : new String[] {"n", "ns", "nesw?n"}) {
            for (String hour : new String[] {"LOWEST", "-1", "" + day.length(), "" + (day.length() + 1), "HIGHEST"}) {
                edge("a number names nothing: HOUR " + hour + " of " + day, "on " + day, "vane 0 0 0",
                        "wind " + hour + " 0 = UNKNOWN", "see 0 " + hour + " 0 = UNKNOWN",
                        "points 0 " + hour + " = UNKNOWN", "blows " + hour + " = UNKNOWN",
                        "proof " + hour + " 0 = UNKNOWN", "oiling " + hour + " 0 0 = UNKNOWN");
            }
        }
    }

    private static void vaneNumbers() {
        edge("4 at most, numbered: the first of one",
                "on n", "vane 0 0 2 = 0", "about 0 2 = 2", "as 0 0 = 0", "oil 0 1 = 2", "see 0 0 0 = 1",
                "points 0 0 = {0}", "sorts 0 1 = 0");
        edge("4 at most, numbered: the fourth",
                "on n", "vane 0 0 0 = 0", "vane 1 0 0 = 1", "vane 2 0 0 = 2", "vane 3 0 3 = 3", "about 3 2 = 3",
                "as 3 3 = 3", "oil 3 1 = 3", "see 3 0 1 = 1", "points 3 0 = {1}", "sorts 3 1 = 13");
        for (int many = 0; many <= 4; many++) {
            for (String vane : new String[] {"LOWEST", "-1", "" + many, "" + (many + 1), "HIGHEST"}) {
                edge("a number names nothing: VANE " + vane + " of " + many, "on n",
                        many + "* vane 0 0 0", "about " + vane + " 0 = UNKNOWN", "as " + vane + " 0 = UNKNOWN",
                        "oil " + vane + " 0 = UNKNOWN", "see " + vane + " 0 0 = UNKNOWN",
                        "points " + vane + " 0 = UNKNOWN", "sorts " + vane + " 0 = UNKNOWN");
            }
        }
    }

    /** Where a RUSTY one turns: a text for each QUARTER that it points at, in it a place for each goal. */
    private static final String[] RUSTY_TURNS = {"0113", "0122", "3123", "0023"};

    private static void kindsTurn() {
        for (int start = 0; start < 4; start++) {
            for (int wind = 0; wind < 4; wind++) {
                turn("a VANE points at the WIND", 0, start, 2, wind, wind);
                turn("a RUSTY one turns a QUARTER at most", 1, start, 3, wind, rusty(start, wind));
                for (int twist = 0; twist < 4; twist++) {
                    int oiled = (wind + twist) % 4;
                    turn("a LEE one stays, if the WIND is the QUARTER of its TWIST", 2, start, twist, wind,
                            wind == twist ? start : wind);
                    turn("an OILED one points to the right of the WIND", 3, start, twist, wind, oiled);
                    turn("a COURT turns there as a RUSTY one", 4, start, twist, wind, rusty(start, oiled));
                }
            }
        }
        edge("it points at its START ahead of HOUR 0, at what it turned to behind that",
                "on ss", "vane 1 0 0", "points 0 0 = {1}", "points 0 1 = {2}");
        edge("a LEE one stays where it pointed in the HOUR ahead, not at its START",
                "on nww", "vane 2 1 3", "points 0 0 = {0}", "points 0 1 = {0}", "points 0 2 = {0}");
    }

    private static int rusty(int at, int goal) {
        return RUSTY_TURNS[at].charAt(goal) - '0';
    }

    private static void turn(String sentence, int kind, int start, int twist, int wind, int due) {
        edge(sentence + ": " + kind + " " + start + " " + twist + " by " + wind,
                "on n", "wind 0 " + wind, "vane " + kind + " " + start + " " + twist, "points 0 0 = {" + due + "}");
    }

    private static void sightings() {
        edge("SEEN in an HOUR when it has turned, not ahead of that",
                "on ?", "vane 1 0 0", "see 0 0 1", "fitting = 2", "blows 0 = {1,2}", "points 0 0 = {1}");
        edge("10 at most are told, of all VANES and HOURS together",
                "on ??", "vane 0 0 0", "vane 0 0 0", "5* see 0 0 0", "4* see 1 1 1", "see 1 0 0 = 10",
                "see 0 1 1 = FULL", "see 1 0 0 = FULL", "count 3 = 10", "about 0 3 = 5", "about 1 3 = 5");
        edge("10 at most are told: what is told again counts again",
                "on ?", "vane 0 0 0", "9* see 0 0 2", "see 0 0 2 = 10", "see 0 0 2 = FULL", "fitting = 1");
    }

    // ---- Promise 1

    private static void newObject() {
        edge("No DAY", "day = STATE", "vane 0 0 0 = STATE", "fitting = STATE", "gusts 1 0 0 = STATE",
                "image = STATE", "restore = STATE");
        edge("No DAY: no HOURS", "wind 0 0 = UNKNOWN", "blows 0 = UNKNOWN", "proof 0 0 = UNKNOWN",
                "oiling 0 0 0 = UNKNOWN");
        edge("No DAY: no VANES", "about 0 0 = UNKNOWN", "as 0 0 = UNKNOWN", "oil 0 0 = UNKNOWN",
                "see 0 0 0 = UNKNOWN", "points 0 0 = UNKNOWN", "sorts 0 0 = UNKNOWN", "ask 0 = STATE");
        edge("No DAY: all else is empty", "blank = 0", "fault = 0", "forget = 0", "count 0 = 0", "count 1 = 0",
                "count 2 = 0", "count 3 = 0", "count 4 = 0", "count 5 = 0", "count 6 = 0");
    }

    // ---- Promises 2 to 6: the day

    private static void letters() {
        edge("code: 32 is the least", "letter 32 = 1", "letter 31 = OUTSIDE", "count 4 = 1");
        edge("code: 126 is the greatest", "letter 126 = 1", "letter 127 = OUTSIDE", "count 4 = 1");
        edge("code: far outside", "letter -1 = OUTSIDE", "letter 0 = OUTSIDE", "letter LOWEST = OUTSIDE",
                "letter HIGHEST = OUTSIDE", "letter 366 = OUTSIDE", "letter 65646 = OUTSIDE", "count 4 = 0");
        edge("FULL: above 8: the eighth is taken", "7* letter 110", "letter 110 = 8", "count 4 = 8");
        edge("FULL: above 8: the ninth is not", "8* letter 110", "letter 110 = FULL", "letter 126 = FULL",
                "letter 32 = FULL", "count 4 = 8");
        edge("OUTSIDE ahead of FULL", "8* letter 110", "letter 31 = OUTSIDE", "letter 127 = OUTSIDE");
        edge("how many THE PAGE has, from the first on", "letter 110 = 1", "letter 101 = 2", "letter 33 = 3",
                "letter 33 = 4", "letter 33 = 5", "letter 33 = 6", "letter 33 = 7", "letter 33 = 8");
        edge("a letter comes behind THE PAGE", "page e", "letter 119 = 2", "day = 2", "blows 0 = {1}",
                "blows 1 = {3}");
        edge("there is room on a full PAGE again when it was emptied", "8* letter 110", "blank = 8",
                "letter 110 = 1", "7* letter 110", "letter 110 = FULL");
        edge("there is room again when a DAY was read", "on nesw?n", "letter 110 = 1", "7* letter 110",
                "letter 110 = FULL");
    }

    private static void pages() {
        edge("how many letters it had: none", "blank = 0", "blank = 0", "count 4 = 0");
        edge("how many letters it had: one", "page n", "blank = 1", "blank = 0");
        edge("how many letters it had: eight", "page nesw?n!!", "blank = 8", "blank = 0", "count 4 = 0");
        edge("how many letters it had: none behind a DAY that was read", "on nes", "blank = 0");
        edge("THE PAGE is empty then: no DAY is read from it", "page n", "blank = 1", "day = STATE", "fault = 0");
        edge("only THE PAGE is empty, not THE DAY", "on n?", "vane 0 1 0", "see 0 1 2", "page ee", "blank = 2",
                "count 0 = 2", "count 2 = 1", "count 3 = 1", "blows 1 = {2}");
    }

    private static void faults() {
        edge("how many letters it has, if there is none: an empty PAGE", "fault = 0");
        edge("how many letters it has, if there is none: one", "page ?", "fault = 1");
        edge("how many letters it has, if there is none: six", "page nesw?n", "fault = 6");
        edge("the first place is 0", "page x", "fault = 0");
        edge("the first place is 0, whatever comes behind", "page Nesw", "fault = 0");
        edge("the place of the first one, not of a later one", "page n!e!", "fault = 1", "page !", "fault = 1");
        edge("the last place that a DAY has", "page nesw?!", "fault = 5");
        edge("behind those ahead of it: no DAY has a seventh letter", "page nesw?nn", "fault = 6");
        edge("behind those ahead of it: nor an eighth", "page nesw?nnn", "fault = 6");
        edge("behind those ahead of it: the sixth is the first then", "page nesw?!nn", "fault = 5");
        edge("behind those ahead of it: a seventh that no DAY has anywhere", "page nesw?n!", "fault = 6");
        edge("it changes nothing", "page n!", "fault = 1", "fault = 1", "count 4 = 2", "blank = 2");
        edge("it tells of THE PAGE, not of THE DAY", "on nesw", "fault = 0", "page n", "fault = 1");
    }

    private static void days() {
        edge("THE PAGE is empty then", "page nes", "day = 3", "count 4 = 0", "day = STATE", "count 5 = 1");
        edge("STATE: it is none, and THE PAGE stays", "page n!", "day = STATE", "count 4 = 2", "fault = 1",
                "count 5 = 0");
        edge("STATE: it is none, and THE DAY stays", "on n?", "vane 2 1 0", "see 0 1 3", "page nesw?nn",
                "day = STATE", "count 0 = 2", "count 2 = 1", "count 3 = 1", "count 4 = 7", "count 5 = 1",
                "fitting = 1");
        edge("STATE: it is none: the empty PAGE over a DAY", "on ??", "day = STATE", "count 0 = 2", "fitting = 16");
        edge("another one is gone, a longer one too", "on nesw?n", "on s", "count 0 = 1", "blows 0 = {2}",
                "blows 1 = UNKNOWN", "fitting = 1", "count 1 = 1");
        edge("another one is gone, a shorter one too", "on s", "on ?nesw?", "count 0 = 6", "blows 0 = {0,1,2,3}",
                "blows 4 = {3}", "blows 5 = {0,1,2,3}", "fitting = 16");
        edge("another one is gone, though all was told of it", "on n?", "fitting = 4", "blows 0 = {0}", "on ss",
                "fitting = 1", "blows 0 = {2}", "blows 1 = {2}");
        edge("another one is gone, with VANES: all four", "on ?", "4* vane 4 1 1", "on ?", "count 2 = 0",
                "about 0 0 = UNKNOWN", "vane 0 2 0 = 0", "about 0 0 = 0", "3* vane 0 0 0", "vane 0 0 0 = FULL");
        edge("another one is gone, with what is SEEN: all ten", "on ?", "vane 0 0 0", "5* see 0 0 1", "5* see 0 0 2",
                "fitting = 0", "on ?", "count 3 = 0", "forget = 0", "vane 0 0 0", "about 0 3 = 0", "fitting = 4",
                "see 0 0 3 = 1", "fitting = 1");
    }

    private static void winds() {
        edge("a QUARTER: 0 is the least but for NONE", "on s", "wind 0 0 = 2", "wind 0 -1 = 0", "wind 0 -2 = OUTSIDE",
                "wind 0 LOWEST = OUTSIDE", "blows 0 = {0,1,2,3}");
        edge("a QUARTER: 3 is the greatest", "on s", "wind 0 3 = 2", "wind 0 4 = OUTSIDE", "wind 0 HIGHEST = OUTSIDE",
                "blows 0 = {3}");
        edge("other refusals are no WINDS", "on s", "wind 0 -101 = OUTSIDE", "wind 0 -104 = OUTSIDE", "blows 0 = {2}");
        edge("what it was (NONE)", "on ?", "wind 0 NONE = NONE", "wind 0 1 = NONE", "wind 0 1 = 1", "wind 0 NONE = 1",
                "wind 0 2 = NONE");
        edge("UNKNOWN ahead of OUTSIDE", "on s", "wind 1 4 = UNKNOWN", "wind -1 -2 = UNKNOWN");
        edge("UNKNOWN: no DAY", "wind 0 0 = UNKNOWN", "wind 0 9 = UNKNOWN");
        edge("the WIND of an HOUR: of no other", "on ???", "wind 1 2 = NONE", "blows 0 = {0,1,2,3}", "blows 1 = {2}",
                "blows 2 = {0,1,2,3}", "count 1 = 1");
        edge("VANES and what is SEEN stay", "on s", "vane 0 0 0", "see 0 0 2", "wind 0 1", "fitting = 0",
                "count 2 = 1", "count 3 = 1", "wind 0 NONE", "fitting = 1");
    }

    // ---- Promises 7 to 12: vanes

    private static void vanes() {
        edge("kind, start, twist: the least", "on n", "vane 0 0 0 = 0", "about 0 0 = 0", "about 0 1 = 0",
                "about 0 2 = 0");
        edge("kind, start, twist: the greatest", "on n", "vane 4 3 3 = 0", "about 0 0 = 4", "about 0 1 = 3",
                "about 0 2 = 3");
        edge("OUTSIDE: kind", "on n", "vane -1 0 0 = OUTSIDE", "vane 5 0 0 = OUTSIDE", "vane LOWEST 0 0 = OUTSIDE",
                "vane HIGHEST 0 0 = OUTSIDE", "count 2 = 0");
        edge("OUTSIDE: start", "on n", "vane 0 -1 0 = OUTSIDE", "vane 0 4 0 = OUTSIDE", "vane 0 LOWEST 0 = OUTSIDE",
                "vane 0 HIGHEST 0 = OUTSIDE", "count 2 = 0");
        edge("OUTSIDE: twist", "on n", "vane 0 0 -1 = OUTSIDE", "vane 0 0 4 = OUTSIDE", "vane 0 0 LOWEST = OUTSIDE",
                "vane 0 0 HIGHEST = OUTSIDE", "count 2 = 0");
        edge("STATE: no DAY", "vane 0 0 0 = STATE", "vane 4 3 3 = STATE", "count 2 = 0");
        edge("OUTSIDE ahead of STATE", "vane 5 0 0 = OUTSIDE", "vane 0 4 0 = OUTSIDE", "vane 0 0 4 = OUTSIDE");
        edge("4 at most: the fourth is taken, the fifth FULL", "on n", "3* vane 0 0 0", "vane 0 0 0 = 3",
                "vane 0 0 0 = FULL", "vane 4 3 3 = FULL", "count 2 = 4");
        edge("OUTSIDE ahead of FULL", "on n", "4* vane 0 0 0", "vane 5 0 0 = OUTSIDE", "vane 0 4 0 = OUTSIDE",
                "vane 0 0 4 = OUTSIDE");
        edge("another VANE points, though all was told of the DAY", "on n?", "fitting = 4", "vane 0 1 0",
                "points 0 0 = {0}", "points 0 1 = {0,1,2,3}", "vane 3 0 1", "points 1 0 = {1}");
        edge("nothing is SEEN of another VANE", "on ?", "vane 0 0 0", "see 0 0 1", "vane 0 0 0 = 1", "about 1 3 = 0",
                "points 1 0 = {1}");
    }

    private static void tellingOfVanes() {
        edge("what: 0 to 3", "on ?", "vane 4 2 1", "see 0 0 1", "see 0 0 2", "about 0 0 = 4", "about 0 1 = 2",
                "about 0 2 = 1", "about 0 3 = 2");
        edge("what: 10 to 13", "on n", "vane 4 2 1", "about 0 10 = 1", "about 0 11 = 1", "about 0 12 = 3",
                "about 0 13 = 0");
        edge("OUTSIDE: what", "on n", "vane 4 2 1", "about 0 -1 = OUTSIDE", "about 0 4 = OUTSIDE",
                "about 0 9 = OUTSIDE", "about 0 14 = OUTSIDE", "about 0 LOWEST = OUTSIDE",
                "about 0 HIGHEST = OUTSIDE", "about 0 -2147483638 = OUTSIDE");
        edge("UNKNOWN ahead of OUTSIDE", "on n", "vane 0 0 0", "about 1 4 = UNKNOWN", "about -1 -1 = UNKNOWN");
        edge("how much is SEEN of it: none, and all ten", "on ?", "vane 0 0 0", "vane 0 0 0", "10* see 1 0 1",
                "about 0 3 = 0", "about 1 3 = 10");
        edge("if it pointed at 0, whatever its START is: a LEE one stays at 0", "on n", "vane 2 3 1",
                "about 0 11 = 0", "about 0 10 = 0", "about 0 12 = 2", "about 0 13 = 3");
        edge("if it pointed at 0: 3 is to the left of it, 2 behind it", "on n", "vane 1 2 0", "about 0 10 = 0",
                "about 0 11 = 1", "about 0 12 = 1", "about 0 13 = 3");
    }

    private static void casts() {
        String[] kinds = {"VANE", "RUSTY", "LEE", "OILED", "COURT"};
        // of each kind as which kinds it can be taken
        String[] taken = {"0", "01", "02", "03", "034"};
        for (int own = 0; own < 5; own++) {
            for (int as = 0; as < 5; as++) {
                boolean isSuch = taken[own].indexOf('0' + as) >= 0;
                edge("a " + kinds[own] + " taken as a " + kinds[as], "on n", "vane 0 0 0",
                        "vane " + own + " 1 2", "as 1 " + as + " = " + (isSuch ? "1" : "NONE"));
            }
        }
        edge("its own number, not that of the KIND", "on n", "4* vane 4 0 0", "as 3 0 = 3", "as 0 4 = 0",
                "as 1 3 = 1");
        edge("OUTSIDE: kind", "on n", "vane 4 0 0", "as 0 -1 = OUTSIDE", "as 0 5 = OUTSIDE", "as 0 LOWEST = OUTSIDE",
                "as 0 HIGHEST = OUTSIDE");
        edge("UNKNOWN ahead of OUTSIDE", "on n", "vane 4 0 0", "as 1 5 = UNKNOWN", "as -1 -1 = UNKNOWN");
    }

    private static void oils() {
        edge("v: 0 is the least", "on n", "vane 3 0 2", "oil 0 0 = 2", "points 0 0 = {0}", "oil 0 -1 = OUTSIDE",
                "oil 0 LOWEST = OUTSIDE", "about 0 2 = 0");
        edge("v: 3 is the greatest", "on n", "vane 3 0 2", "oil 0 3 = 2", "points 0 0 = {3}", "oil 0 4 = OUTSIDE",
                "oil 0 HIGHEST = OUTSIDE", "about 0 2 = 3");
        edge("what it was, if it is that already", "on n", "vane 3 0 2", "oil 0 2 = 2", "oil 0 2 = 2");
        edge("UNKNOWN ahead of OUTSIDE", "on n", "vane 3 0 2", "oil 1 4 = UNKNOWN", "oil -1 -1 = UNKNOWN");
        edge("its TWIST, no other's; all KINDS have one", "on n", "vane 0 0 0", "vane 1 0 1", "vane 2 0 2",
                "oil 0 3 = 0", "oil 1 2 = 1", "about 0 2 = 3", "about 1 2 = 2", "about 2 2 = 2");
    }

    private static void seeing() {
        edge("a QUARTER: 0 is the least", "on ?", "vane 0 0 0", "see 0 0 0 = 1", "see 0 0 -1 = OUTSIDE",
                "see 0 0 LOWEST = OUTSIDE", "blows 0 = {0}");
        edge("a QUARTER: 3 is the greatest", "on ?", "vane 0 0 0", "see 0 0 3 = 1", "see 0 0 4 = OUTSIDE",
                "see 0 0 HIGHEST = OUTSIDE", "blows 0 = {3}");
        edge("FULL: the tenth is taken, the eleventh not", "on ??", "vane 0 0 0", "9* see 0 0 1", "see 0 0 1 = 10",
                "see 0 1 1 = FULL", "blows 1 = {0,1,2,3}", "count 3 = 10");
        edge("UNKNOWN ahead of OUTSIDE", "on ?", "vane 0 0 0", "see 1 0 4 = UNKNOWN", "see 0 1 4 = UNKNOWN",
                "see -1 -1 -1 = UNKNOWN");
        edge("UNKNOWN ahead of FULL", "on ?", "vane 0 0 0", "10* see 0 0 1", "see 1 0 1 = UNKNOWN",
                "see 0 1 1 = UNKNOWN");
        edge("OUTSIDE ahead of FULL", "on ?", "vane 0 0 0", "10* see 0 0 1", "see 0 0 4 = OUTSIDE",
                "see 0 0 -1 = OUTSIDE");
        edge("how much is: one, two, of whichever VANE", "on ??", "vane 0 0 0", "vane 0 0 0", "see 0 0 1 = 1",
                "see 1 1 1 = 2", "see 0 0 1 = 3", "about 0 3 = 2", "about 1 3 = 1");
        edge("SEEN at two QUARTERS in one HOUR is taken, and nothing FITS then", "on ?", "vane 0 0 0",
                "see 0 0 1 = 1", "see 0 0 2 = 2", "fitting = 0");
    }

    private static void forgetting() {
        edge("how much was: nothing", "forget = 0", "on n", "forget = 0", "vane 0 0 0", "forget = 0");
        edge("how much was: all ten", "on ??", "vane 0 0 0", "vane 0 0 0", "5* see 0 0 1", "5* see 1 0 2",
                "forget = 10", "forget = 0", "count 3 = 0", "about 0 3 = 0", "about 1 3 = 0");
        edge("nothing is SEEN any more: all FIT again", "on ??", "vane 0 0 0", "see 0 0 1", "see 0 1 1",
                "see 0 1 2", "fitting = 0", "forget = 3", "fitting = 16", "points 0 0 = {0,1,2,3}");
        edge("there is room for ten again", "on ?", "vane 0 0 0", "10* see 0 0 1", "forget = 10", "see 0 0 2 = 1",
                "blows 0 = {2}", "9* see 0 0 2", "see 0 0 2 = FULL");
        edge("VANES and WINDS stay", "on n?", "vane 3 0 2", "see 0 0 1", "forget = 1", "count 2 = 1", "about 0 2 = 2",
                "count 1 = 1");
    }

    // ---- Promises 13 to 20: what can be

    private static void fittings() {
        edge("STATE: no DAY", "fitting = STATE", "page n", "fitting = STATE", "page !", "day = STATE",
                "fitting = STATE");
        edge("all others in HOURS that are not known: none such", "on nesw", "fitting = 1");
        edge("all others in HOURS that are not known: one such", "on nes?", "fitting = 4");
        edge("all others in HOURS that are not known: six, the most", "on ??????", "fitting = 4096",
                "4* vane 0 0 0", "fitting = 4096");
        edge("all that is SEEN would be so: none are, by the known ones", "on n", "vane 0 0 0", "see 0 0 1",
                "fitting = 0");
        edge("all that is SEEN would be so: none are, as it speaks against itself", "on ?", "vane 0 0 0",
                "vane 0 0 0", "see 0 0 1", "see 1 0 2", "fitting = 0");
        edge("all that is SEEN would be so: one is", "on ??????", "vane 0 0 0", "see 0 0 0", "see 0 1 1", "see 0 2 2",
                "see 0 3 3", "see 0 4 0", "fitting = 4", "see 0 5 1", "fitting = 1");
        edge("all that is SEEN would be so: in the last HOUR", "on ??????", "vane 0 0 0", "see 0 5 3",
                "fitting = 1024", "blows 5 = {3}");
        edge("all that is SEEN would be so: of the fourth VANE", "on ?", "4* vane 0 0 0", "see 3 0 3",
                "fitting = 1", "points 0 0 = {3}");
        edge("those of an HOUR behind what is SEEN are free", "on ??", "vane 1 0 0", "see 0 0 0", "fitting = 4",
                "points 0 1 = {0,1,3}");
    }

    private static void pointsAndBlows() {
        edge("as bits: no QUARTER, if none are FITTING", "on n?", "vane 0 0 0", "see 0 0 1", "points 0 0 = {}",
                "points 0 1 = {}", "blows 0 = {}", "blows 1 = {}");
        edge("as bits: all four", "on ?", "vane 0 0 0", "points 0 0 = {0,1,2,3}", "blows 0 = {0,1,2,3}");
        edge("as bits: 0 is the lowest, 3 the highest", "on nw", "vane 0 1 0", "points 0 0 = 1", "points 0 1 = 8",
                "blows 0 = 1", "blows 1 = 8");
        edge("by all that are FITTING, in the first HOUR by what is SEEN in the last", "on ??", "vane 1 0 0",
                "see 0 1 2", "points 0 0 = {1,3}", "blows 0 = {1,2,3}");
        // by a WIND 3 in hour 1 it can be at 1 in hour 2 if the first WIND was 1 or 2, not if it was 0 or 3
        edge("by all that are FITTING, in an HOUR between the first and the last", "on ???", "vane 1 0 0", "see 0 2 1",
                "blows 1 = {0,1,2,3}", "points 0 1 = {0,1,2}", "points 0 0 = {0,1,3}");
        edge("UNKNOWN: vane, hour: both", "on n", "points 0 0 = UNKNOWN", "vane 0 0 0", "points 0 1 = UNKNOWN",
                "points 1 0 = UNKNOWN", "points 1 1 = UNKNOWN");
        edge("UNKNOWN: hour, with no DAY", "blows 0 = UNKNOWN", "blows -1 = UNKNOWN", "points 0 0 = UNKNOWN");
        edge("BLOWS without VANES", "on n?", "blows 0 = {0}", "blows 1 = {0,1,2,3}");
    }

    private static void asking() {
        edge("what: 0 to 2", "on ?", "vane 0 0 0", "ask 0 = 0", "ask 1 = 0", "ask 2 = 1", "ask -1 = OUTSIDE",
                "ask 3 = OUTSIDE", "ask LOWEST = OUTSIDE", "ask HIGHEST = OUTSIDE", "count 6 = 3");
        edge("STATE: there are no VANES", "ask 0 = STATE", "on ?", "ask 0 = STATE", "ask 2 = STATE", "count 6 = 0");
        edge("OUTSIDE ahead of STATE", "ask 3 = OUTSIDE", "on ?", "ask -1 = OUTSIDE", "ask 3 = OUTSIDE");
        edge("of like ones the least VANE", "on ?", "4* vane 0 0 0", "ask 0 = 0", "ask 1 = 0", "ask 2 = 1");
        edge("of like ones the least VANE, the best being the last two", "on ?", "vane 1 0 0", "vane 1 0 0",
                "vane 0 0 0", "vane 0 0 0", "ask 0 = 2", "ask 1 = 0", "ask 2 = 1");
        edge("then the least HOUR", "on ??????", "vane 0 0 0", "ask 0 = 0", "ask 1 = 0", "ask 2 = 1024");
        edge("then the least HOUR, the best being the last two", "on nnnn??", "vane 0 0 0", "ask 0 = 0", "ask 1 = 4",
                "ask 2 = 4");
        // at 0, 0, 0 and 0, 0, 1 in hours 0 and 1 the LEE, at 1, 0, 0 and 1, 1, 1 the COURT, by the three that fit
        edge("the least VANE ahead of the least HOUR", "on ??", "vane 2 0 3", "vane 4 0 1", "see 1 1 1", "see 0 0 0",
                "fitting = 3", "ask 0 = 0", "ask 1 = 1", "ask 2 = 2");
        edge("the last VANE in the last HOUR", "on nnnnn?", "3* vane 1 0 0", "vane 3 0 1", "ask 0 = 3", "ask 1 = 5",
                "ask 2 = 1");
        // by the two WINDS that fit the RUSTY one is at 1, the LEE at 1 or 2
        edge("fewest at worst", "on ?", "vane 1 0 0", "vane 2 1 3", "see 0 0 1", "ask 0 = 1", "ask 2 = 1");
        edge("one is FITTING: all are alike", "on nn", "vane 1 0 0", "vane 0 0 0", "ask 0 = 0", "ask 1 = 0",
                "ask 2 = 1");
        edge("one is FITTING: the least VANE and HOUR, though it was SEEN", "on nn", "vane 0 0 0", "vane 0 0 0",
                "see 0 0 0", "ask 0 = 0", "ask 1 = 0", "ask 2 = 1");
        edge("none, if none are FITTING", "on n", "vane 0 0 0", "see 0 0 1", "ask 0 = NONE", "ask 1 = NONE",
                "ask 2 = NONE", "ask 3 = OUTSIDE");
        edge("it had best be SEEN, though 10 are told already", "on ??", "vane 0 0 0", "10* see 0 0 1", "ask 0 = 0",
                "ask 1 = 1", "ask 2 = 1");
    }

    private static void proofs() {
        edge("what: 0 and 1", "on ?", "vane 1 0 0", "vane 0 0 0", "proof 0 0 = 1", "proof 0 1 = {1}",
                "proof 0 -1 = OUTSIDE", "proof 0 2 = OUTSIDE", "proof 0 LOWEST = OUTSIDE",
                "proof 0 HIGHEST = OUTSIDE", "count 6 = 2");
        edge("UNKNOWN ahead of OUTSIDE", "on ?", "vane 0 0 0", "proof 1 2 = UNKNOWN", "proof -1 -1 = UNKNOWN");
        edge("UNKNOWN ahead of STATE", "proof 0 0 = UNKNOWN", "on ?", "proof 1 0 = UNKNOWN");
        edge("OUTSIDE ahead of STATE", "on ?", "proof 0 2 = OUTSIDE", "proof 0 -1 = OUTSIDE");
        edge("STATE: there are no VANES", "on n", "proof 0 0 = STATE", "proof 0 1 = STATE", "count 6 = 0");
        edge("the fewest VANES: none, if it is known", "on n", "vane 0 0 0", "proof 0 0 = 0", "proof 0 1 = {}");
        edge("the fewest VANES: none, if it is known by what is SEEN", "on ?", "vane 0 0 0", "see 0 0 3",
                "proof 0 0 = 0", "proof 0 1 = {}");
        edge("none also if none are FITTING, even for a known WIND", "on n", "vane 0 0 0", "see 0 0 1",
                "proof 0 0 = NONE", "proof 0 1 = NONE");
        edge("none, if no VANES prove it", "on ?", "4* vane 1 0 0", "proof 0 0 = NONE", "proof 0 1 = NONE");
        edge("none, if no VANES prove it: of six HOURS that are not known", "on ??????", "vane 1 3 3",
                "proof 5 0 = NONE", "proof 0 1 = NONE", "proof 3 1 = NONE");
        // three of four WINDS are told by one RUSTY, but two of them are alike to it
        edge("whichever of those that are FITTING it is", "on ?", "vane 1 0 0", "proof 0 0 = NONE", "see 0 0 0",
                "proof 0 0 = 0", "forget", "wind 0 1", "proof 0 0 = 0");
    }

    private static void proofsByMany() {
        // to LEE 3 1 the WINDS 1 and 3 are one, to RUSTY 0 the WINDS 1 and 2
        edge("the fewest VANES ahead of the least bits", "on ?", "vane 2 3 1", "vane 1 0 0", "proof 0 1 = {0,1}",
                "vane 0 2 0", "proof 0 0 = 1", "proof 0 1 = {2}");
        edge("of like ones the least bits: of one", "on ?", "vane 1 0 0", "3* vane 0 0 0", "proof 0 0 = 1",
                "proof 0 1 = {1}");
        edge("of like ones the least bits: of two", "on ?", "vane 1 0 0", "vane 1 0 0", "vane 2 3 1", "vane 2 3 1",
                "proof 0 0 = 2", "proof 0 1 = {0,2}");
        edge("the last VANE alone", "on ?", "3* vane 1 0 0", "vane 3 0 3", "proof 0 0 = 1", "proof 0 1 = {3}");
        edge("all four", "on ??", "vane 4 0 3", "vane 1 2 2", "vane 4 1 2", "vane 4 2 2", "proof 1 0 = 4",
                "proof 1 1 = {0,1,2,3}");
        edge("the WIND of that HOUR would be known, not those behind it", "on ???", "vane 2 0 0", "vane 1 0 0",
                "vane 1 1 0", "vane 0 0 0", "proof 0 0 = 1", "proof 0 1 = {0}");
        // by s both are at 2: to the RUSTY one the WINDS 0 and 3 are one then, to the LEE 2 and 3
        edge("which WINDS are alike, by where all VANES are then", "on s?", "vane 1 1 0", "vane 2 0 3", "proof 1 0 = 2",
                "proof 1 1 = {0,1}");
        // 1 and 2 are one to both in hour 0; in hour 1 no two WINDS are, wherever both are then
        edge("the WIND of that HOUR would be known, not that of the one ahead", "on ??", "vane 1 0 0", "vane 2 1 2",
                "vane 1 0 0", "vane 1 2 0", "proof 1 0 = 2", "proof 1 1 = {0,1}");
        edge("which WINDS are alike, by the known ones ahead", "on n?", "vane 2 0 0", "proof 1 0 = 1",
                "proof 1 1 = {0}");
        // by 2 in hour 0 the second LEE stays at 1, so only by 0 it is at 0 then; had it been at 0, by 2 as well
        edge("which WINDS are alike, by those that fit from START on", "on ??", "vane 2 0 0", "vane 2 1 2", "see 1 1 0",
                "blows 1 = {0,2}", "proof 1 0 = 1", "proof 1 1 = {0}");
        edge("what is not known in its HOUR stays so behind it", "on ?nnnnn", "vane 1 1 0", "proof 0 0 = NONE",
                "wind 5 NONE", "proof 5 0 = NONE");
        edge("in all HOURS: in those ahead of it, too", "on ??", "vane 2 0 0", "proof 1 0 = NONE", "vane 2 1 1",
                "proof 1 0 = 2", "proof 1 1 = {0,1}");
        // by 0 and 2, 1 and 1, 2 and 1: the last one is at 0 and 0, 1 and 1, 0 and 1
        edge("in all HOURS: in those behind it, too", "on ??", "vane 2 2 1", "vane 1 0 1", "vane 2 0 2", "see 0 1 2",
                "see 1 1 1", "fitting = 3", "blows 0 = {0,1,2}", "points 2 0 = {0,1}", "proof 0 0 = 1",
                "proof 0 1 = {2}");
        edge("in all HOURS: in those behind it, whatever others do then", "on ???", "vane 1 1 2", "vane 4 3 1",
                "vane 2 1 0", "vane 4 2 2", "see 2 1 3", "see 3 2 2", "fitting = 5", "proof 0 0 = 1",
                "proof 0 1 = {0}");
        edge("for the first HOUR of six and for the last", "on ??????", "vane 3 0 0", "proof 0 1 = {0}",
                "proof 5 1 = {0}");
        edge("if it were SEEN besides, though 10 are told already", "on ??", "vane 0 0 0", "10* see 0 0 1",
                "proof 1 0 = 1", "proof 1 1 = {0}", "count 3 = 10");
    }

    private static void sorts() {
        edge("what: 0 and 1", "on n", "vane 1 0 0", "sorts 0 0 = 20", "sorts 0 1 = 0", "sorts 0 -1 = OUTSIDE",
                "sorts 0 2 = OUTSIDE", "sorts 0 LOWEST = OUTSIDE", "sorts 0 HIGHEST = OUTSIDE", "count 6 = 2");
        edge("UNKNOWN ahead of OUTSIDE", "on n", "vane 1 0 0", "sorts 1 2 = UNKNOWN", "sorts -1 -1 = UNKNOWN");
        edge("0 to 19: all of them", "on ?", "vane 3 1 2", "sorts 0 0 = 20", "sorts 0 1 = 0");
        // by n it stays at 2, by s it turns to 3: a COURT of TWIST 2 alone does
        edge("0 to 19: one alone", "on ns", "vane 1 2 1", "see 0 0 2", "see 0 1 3", "sorts 0 0 = 1",
                "sorts 0 1 = 18");
        edge("0 to 19: the greatest alone", "on wns", "vane 2 2 2", "see 0 1 3", "see 0 2 0", "sorts 0 0 = 1",
                "sorts 0 1 = 19");
        edge("the least (NONE): it can be none, as it is SEEN at two QUARTERS", "on ?", "vane 0 0 0", "see 0 0 1",
                "see 0 0 2", "sorts 0 0 = 0", "sorts 0 1 = NONE");
        edge("all others as they are: one that can not be so leaves it none", "on n", "vane 0 0 0", "vane 0 0 0",
                "see 1 0 1", "sorts 0 0 = 0", "sorts 0 1 = NONE", "sorts 1 0 = 3", "sorts 1 1 = 13");
        edge("its START as it is", "on n", "vane 0 3 0", "see 0 0 3", "sorts 0 0 = 3", "sorts 0 1 = 8");
        edge("so that some WINDS are FITTING: in six HOURS, the known and the others", "on ?nesw?", "vane 3 0 1",
                "see 0 5 2", "see 0 1 1", "sorts 0 0 = 2", "sorts 0 1 = 8");
        edge("so that some WINDS are FITTING: there are but four", "on ?", "vane 0 0 0", "vane 3 0 0", "vane 1 0 0",
                "see 0 0 0", "see 1 0 1", "sorts 2 0 = 0", "forget", "oil 1 1", "see 0 0 3", "see 1 0 3",
                "sorts 2 0 = 0");
        edge("it stays what it is", "on n", "vane 2 3 1", "sorts 0 0 = 20", "about 0 0 = 2", "about 0 1 = 3",
                "about 0 2 = 1", "points 0 0 = {0}");
        edge("of the fourth VANE", "on n", "4* vane 0 0 0", "see 3 0 2", "sorts 3 0 = 1", "sorts 3 1 = 14");
    }

    private static void inquiriesRunOut() {
        for (String last : new String[] {"ask 0", "proof 0 0", "sorts 0 0"}) {
            edge("30 times together: the 30th is done, the 31st not: " + last, "on ?", "vane 0 0 0", "10* ask 1",
                    "10* proof 0 1", "9* sorts 0 1", last, "count 6 = 30", last + " = STATE", "ask 0 = STATE",
                    "proof 0 0 = STATE", "sorts 0 0 = STATE", "count 6 = 30");
            edge("30 times, of one call alone: " + last, "on ?", "vane 0 0 0", "30* " + last, last + " = STATE");
            edge("it counts, whichever what is asked for: " + last, "on ?", "vane 0 0 0", last, "count 6 = 1",
                    last.substring(0, last.length() - 1) + "1", "count 6 = 2");
        }
        edge("done, though the answer is NONE", "on ?", "vane 0 0 0", "see 0 0 0", "see 0 0 1", "10* ask 0 = NONE",
                "10* proof 0 0 = NONE", "10* sorts 0 1 = NONE", "count 6 = 30", "ask 0 = STATE");
        edge("what is refused is not done", "on ?", "ask 0 = STATE", "proof 0 0 = STATE", "vane 0 0 0",
                "ask 3 = OUTSIDE", "proof 1 0 = UNKNOWN", "proof 0 2 = OUTSIDE", "sorts 1 0 = UNKNOWN",
                "sorts 0 2 = OUTSIDE", "count 6 = 0", "30* ask 0", "ask 0 = STATE");
        edge("OUTSIDE, UNKNOWN ahead of STATE", "on ?", "vane 0 0 0", "30* ask 0", "ask 3 = OUTSIDE",
                "ask -1 = OUTSIDE", "proof 1 0 = UNKNOWN", "proof 1 2 = UNKNOWN", "proof 0 2 = OUTSIDE",
                "sorts 1 0 = UNKNOWN", "sorts 1 2 = UNKNOWN", "sorts 0 2 = OUTSIDE");
        edge("it counts on, whatever is read", "on ?", "vane 0 0 0", "30* ask 0", "on ?", "vane 0 0 0",
                "count 6 = 30", "ask 0 = STATE", "proof 0 0 = STATE", "sorts 0 0 = STATE");
        edge("it counts on, whatever is restored", "on ?", "vane 0 0 0", "image", "29* ask 0", "restore",
                "count 6 = 29", "ask 0 = 0", "restore", "ask 0 = STATE", "count 6 = 30");
        edge("nothing else counts", "on n", "vane 0 0 0", "fitting", "points 0 0", "blows 0", "oiling 0 0 0",
                "gusts 1 0 0", "image", "restore", "forget", "digest", "count 6 = 0");
    }

    private static void oilings() {
        edge("what: 0 and 1; quarter: 0 and 3", "on n", "vane 3 0 1", "oiling 0 0 0 = 1", "oiling 0 0 1 = {0}",
                "oiling 0 3 0 = 1", "oiling 0 3 1 = {0}");
        edge("OUTSIDE: quarter", "on n", "vane 3 0 1", "oiling 0 -1 0 = OUTSIDE", "oiling 0 4 0 = OUTSIDE",
                "oiling 0 LOWEST 0 = OUTSIDE", "oiling 0 HIGHEST 0 = OUTSIDE");
        edge("OUTSIDE: what", "on n", "vane 3 0 1", "oiling 0 0 -1 = OUTSIDE", "oiling 0 0 2 = OUTSIDE",
                "oiling 0 0 LOWEST = OUTSIDE", "oiling 0 0 HIGHEST = OUTSIDE");
        edge("UNKNOWN ahead of OUTSIDE", "on n", "vane 3 0 1", "oiling 1 4 0 = UNKNOWN", "oiling -1 0 2 = UNKNOWN");
        edge("UNKNOWN ahead of STATE", "oiling 0 0 0 = UNKNOWN", "on ?", "oiling 1 0 0 = UNKNOWN");
        edge("OUTSIDE ahead of STATE", "on ?", "oiling 0 4 0 = OUTSIDE", "oiling 0 0 2 = OUTSIDE", "vane 0 0 0",
                "oiling 0 -1 0 = OUTSIDE", "oiling 0 0 -1 = OUTSIDE");
        edge("STATE: there are no VANES", "on n", "oiling 0 0 0 = STATE", "oiling 0 0 1 = STATE");
        edge("all WINDS until that HOUR being known: its own", "on n?", "vane 0 0 0", "oiling 0 0 0 = 0",
                "oiling 1 0 0 = STATE", "wind 1 0", "oiling 1 0 0 = 0");
        edge("all WINDS until that HOUR being known: the first", "on ?nnnnn", "vane 0 0 0", "oiling 0 0 0 = STATE",
                "oiling 1 0 0 = STATE", "oiling 5 0 0 = STATE", "wind 0 3", "oiling 5 0 0 = 0");
        edge("all WINDS until that HOUR being known: not those behind it", "on n?????", "vane 0 0 0",
                "oiling 0 0 0 = 0", "oiling 1 0 0 = STATE");
        edge("the TWIST must become another one: it does not matter to a VANE, a RUSTY", "on n", "vane 0 0 0",
                "vane 1 1 0", "oiling 0 1 0 = NONE", "oiling 0 1 1 = NONE", "oiling 0 0 0 = 0");
        edge("it would point there by another TWIST from its START on", "on nn", "vane 4 2 0", "oiling 0 2 0 = 1",
                "oiling 0 0 0 = NONE", "oiling 1 0 0 = 0", "oiling 1 2 0 = 1");
        edge("what is SEEN does not matter", "on n", "vane 3 0 1", "see 0 0 0", "fitting = 0", "oiling 0 1 0 = 0",
                "oiling 0 0 0 = 1");
        edge("the TWIST stays as it is", "on n", "vane 3 0 1", "oiling 0 0 0 = 1", "about 0 2 = 1",
                "points 0 0 = {1}");
    }

    private static void oilingsByMoreThanHalf() {
        edge("more than half: one of one", "on n", "vane 0 0 0", "oiling 0 0 0 = 0", "oiling 0 0 1 = {}",
                "oiling 0 1 0 = NONE");
        edge("more than half: one of two is not", "on n", "vane 0 0 0", "vane 3 0 1", "oiling 0 0 0 = 1",
                "oiling 0 0 1 = {1}", "oiling 0 1 0 = NONE", "oiling 0 1 1 = NONE");
        edge("more than half: two of three are, one is not", "on n", "vane 3 0 0", "vane 3 0 0", "vane 3 0 1",
                "oiling 0 0 0 = 0", "oiling 0 1 0 = 1", "oiling 0 2 0 = 2");
        edge("more than half: three of four are, two are not", "on n", "vane 3 0 0", "vane 3 0 0", "vane 3 0 0",
                "vane 3 0 1", "oiling 0 0 0 = 0", "oil 2 1", "oiling 0 0 0 = 1", "oiling 0 1 0 = 1",
                "oiling 0 2 0 = 3", "oiling 0 2 1 = {0,1,2}");
        edge("of like ones the least bits: of one", "on n", "4* vane 3 0 1", "oil 0 0", "oil 1 0",
                "oiling 0 0 1 = {2}", "oiling 0 1 1 = {0}");
        edge("of like ones the least bits: of two", "on n", "vane 0 0 0", "3* vane 3 0 1", "oiling 0 0 0 = 2",
                "oiling 0 0 1 = {1,2}");
        edge("of like ones the least bits: of three", "on s", "vane 3 3 3", "vane 3 2 0", "vane 2 1 0", "vane 4 3 1",
                "oiling 0 0 0 = 3", "oiling 0 0 1 = {0,1,3}");
        edge("the last VANE alone", "on n", "vane 0 0 0", "vane 0 0 0", "vane 1 2 0", "vane 3 0 2",
                "oiling 0 0 0 = 1", "oiling 0 0 1 = {3}");
    }

    private static void gusts() {
        edge("days: 1 is the least, 40 the greatest", "on n", "vane 0 0 0", "gusts 1 0 0 = 1", "gusts 40 0 0 = 40",
                "gusts 0 0 0 = OUTSIDE", "gusts 41 0 0 = OUTSIDE", "gusts -1 0 0 = OUTSIDE",
                "gusts LOWEST 0 0 = OUTSIDE", "gusts HIGHEST 0 0 = OUTSIDE");
        edge("seed: 0 at least", "on n", "gusts 1 0 1 = 0", "gusts 1 -1 1 = OUTSIDE", "gusts 1 LOWEST 1 = OUTSIDE",
                "gusts 1 HIGHEST 1 = 2147483647");
        edge("what: 0 and 1", "on n", "vane 0 0 0", "gusts 1 7 0 = 1", "gusts 1 7 1 = 7", "gusts 1 7 -1 = OUTSIDE",
                "gusts 1 7 2 = OUTSIDE", "gusts 1 7 LOWEST = OUTSIDE", "gusts 1 7 HIGHEST = OUTSIDE");
        edge("STATE: no DAY", "gusts 1 0 0 = STATE", "gusts 40 HIGHEST 1 = STATE", "page n", "gusts 1 0 0 = STATE");
        edge("OUTSIDE ahead of STATE", "gusts 0 0 0 = OUTSIDE", "gusts 41 0 0 = OUTSIDE", "gusts 1 -1 0 = OUTSIDE",
                "gusts 1 0 2 = OUTSIDE");
        edge("a known one is not drawn", "on nesw", "vane 0 0 0", "gusts 40 77 1 = 77", "gusts 40 77 0 = 160");
        edge("a known one is not drawn: among others", "on n?n", "gusts 1 0 1 = 12345", "gusts 2 0 1 = 1406932606");
        edge("VANES are at their START ahead of HOUR 0 of each DAY", "on s", "vane 1 0 0", "gusts 40 0 0 = 0",
                "on ss", "vane 1 0 0", "gusts 40 0 0 = 40");
        edge("the most HOURS", "on nnnnnn", "4* vane 0 0 0", "gusts 40 0 0 = 240");
        edge("what is SEEN does not matter, the state stays", "on ?", "vane 0 0 0", "see 0 0 1", "see 0 0 2",
                "gusts 40 3 0 = 40", "fitting = 0", "count 1 = 0");
        edge("the SEED goes on from DAY to DAY", "on ?", "gusts 1 0 1 = 12345", "gusts 1 12345 1 = 1406932606",
                "gusts 2 0 1 = 1406932606");
    }

    private static void seedsWrap() {
        edge("its rest by 2 to the 31: below that it is whole", "on ?", "gusts 1 0 1 = 12345",
                "gusts 1 1 1 = 1103527590");
        edge("its rest by 2 to the 31: the first above it", "on ?", "gusts 1 2 1 = 59559187");
        edge("its rest by 2 to the 31: of the greatest SEED", "on ?", "gusts 1 HIGHEST 1 = 1043980748");
        for (long next : new long[] {0, 1, 65535, 65536, 131071, 131072, 196607, 196608, 262143, 262144,
            2147418111L, 2147418112L, 2147483647L}) {
            long seed = seedAhead(next);
            edge("its rest by 2 to the 31: it becomes " + next, "on ?", "gusts 1 " + seed + " 1 = " + next);
            // a LEE that points elsewhere misses the WIND of its TWIST alone
            for (int twist = 0; twist < 4; twist++) {
                boolean isDrawn = next / 65536 % 4 == twist;
                edge("by 65536 (rounded down), its rest: the DRAW of " + next + ", is it " + twist, "on ?",
                        "vane 2 " + (twist + 1) % 4 + " " + twist,
                        "gusts 1 " + seed + " 0 = " + (isDrawn ? 0 : 1));
            }
        }
    }

    /** The SEED behind which the next one comes. */
    private static long seedAhead(long next) {
        BigInteger rests = BigInteger.ONE.shiftLeft(31);
        BigInteger back = BigInteger.valueOf(1103515245).modInverse(rests);
        return BigInteger.valueOf(next - 12345).multiply(back).mod(rests).longValueExact();
    }

    private static void gustsByMoreThanHalf() {
        edge("more than half of all VANES: of none there are none", "on n", "gusts 40 0 0 = 0");
        edge("more than half: one of one", "on n", "vane 0 0 0", "gusts 40 0 0 = 40");
        edge("more than half: none of one", "on n", "vane 3 0 1", "gusts 40 0 0 = 0");
        edge("more than half: one of two is not", "on n", "vane 0 0 0", "vane 3 0 1", "gusts 40 0 0 = 0",
                "oil 1 0", "gusts 40 0 0 = 40");
        edge("more than half: two of three are, one is not", "on n", "vane 0 0 0", "vane 3 0 1", "vane 3 0 0",
                "gusts 40 0 0 = 40", "oil 2 1", "gusts 40 0 0 = 0");
        edge("more than half: three of four are, two are not", "on n", "vane 0 0 0", "vane 0 0 0", "vane 3 0 1",
                "vane 3 0 0", "gusts 40 0 0 = 40", "oil 3 1", "gusts 40 0 0 = 0");
        edge("pointed at the WIND, not at one QUARTER together", "on n", "4* vane 3 0 1", "gusts 40 0 0 = 0");
    }

    // ---- Promises 21 to 24: what is told of all

    private static void images() {
        edge("STATE: no DAY", "image = STATE", "page n", "image = STATE", "page !", "day = STATE", "image = STATE",
                "restore = STATE");
        edge("how many VANES: none", "on n", "image = 0", "restore = 0");
        edge("how many VANES: four", "on n", "4* vane 0 0 0", "image = 4", "restore = 4");
        edge("one; the latest", "on n", "vane 3 0 1", "image = 1", "oil 0 2", "vane 0 0 0", "image = 2", "oil 0 3",
                "restore = 2", "about 0 2 = 2");
        edge("it keeps WINDS, those that are not known, too", "on n?", "image", "wind 0 NONE", "wind 1 2", "restore",
                "blows 0 = {0}", "blows 1 = {0,1,2,3}", "count 1 = 1");
        edge("it keeps TWISTS, of the fourth VANE too", "on n", "4* vane 3 0 1", "image", "oil 0 0", "oil 3 3",
                "restore", "about 0 2 = 1", "about 3 2 = 1", "points 3 0 = {1}");
        edge("it keeps what is SEEN: nothing", "on ?", "vane 0 0 0", "image", "10* see 0 0 1", "restore",
                "count 3 = 0", "about 0 3 = 0", "fitting = 4", "see 0 0 2 = 1", "fitting = 1");
        edge("it keeps what is SEEN: all ten", "on ??", "vane 0 0 0", "9* see 0 0 1", "see 0 1 2", "image",
                "forget = 10", "see 0 0 3", "restore", "count 3 = 10", "about 0 3 = 10", "blows 0 = {1}",
                "blows 1 = {2}", "see 0 0 1 = FULL", "forget = 10");
        edge("it is no other by what comes after it", "on ?", "vane 3 0 1", "see 0 0 1", "image", "wind 0 3",
                "oil 0 2", "see 0 0 2", "vane 0 0 0", "restore", "restore = 1", "count 1 = 0", "about 0 2 = 1",
                "count 3 = 1", "count 2 = 1");
    }

    private static void restores() {
        edge("STATE: none was kept", "restore = STATE", "on n", "restore = STATE", "vane 0 0 0", "restore = STATE",
                "count 2 = 1");
        edge("STATE: a DAY was read since", "on n", "image", "on ?", "restore = STATE", "blows 0 = {0,1,2,3}");
        edge("STATE: a DAY was read since, of the same text, too", "on n?", "image", "on n?", "restore = STATE",
                "image = 0", "restore = 0");
        edge("no DAY was read, if it was refused", "on n", "vane 0 0 0", "image", "day = STATE", "page x",
                "day = STATE", "restore = 1");
        edge("those that come since are gone: the second", "on n", "vane 1 0 0", "image = 1", "vane 2 0 0 = 1",
                "restore = 1", "about 1 0 = UNKNOWN", "see 1 0 0 = UNKNOWN", "vane 3 0 0 = 1", "about 1 0 = 3");
        edge("those that come since are gone: all four", "on ?", "image = 0", "4* vane 0 0 0", "10* see 3 0 1",
                "restore = 0", "about 0 0 = UNKNOWN", "count 2 = 0", "count 3 = 0", "ask 0 = STATE",
                "4* vane 1 0 0", "about 3 3 = 0", "vane 0 0 0 = FULL");
        edge("it goes on from there, though all was told of what came since", "on n?", "vane 0 0 0", "image",
                "wind 0 2", "fitting = 4", "points 0 0 = {2}", "restore", "points 0 0 = {0}", "see 0 1 1",
                "fitting = 1", "restore", "fitting = 4");
        edge("again and again", "on n", "vane 3 0 0", "image = 1", "oil 0 1", "restore = 1", "about 0 2 = 0",
                "oil 0 2", "restore = 1", "about 0 2 = 0", "restore = 1");
        edge("THE PAGE goes on", "on n", "image", "page ab", "restore", "count 4 = 2", "fault = 0", "blank = 2");
        edge("how often a DAY was read goes on", "on n", "on n", "image", "restore", "count 5 = 2");
        edge("an empty IMAGE brings back nothing that was gone", "on n", "vane 0 0 0", "see 0 0 0", "on n", "image",
                "restore = 0", "count 2 = 0", "count 3 = 0");
    }

    private static void counts() {
        edge("what: 0 to 6: the least of each", "count 0 = 0", "count 1 = 0", "count 2 = 0", "count 3 = 0",
                "count 4 = 0", "count 5 = 0", "count 6 = 0");
        edge("what: 0 to 6: the most of each", "on n", "on nesw?n", "wind 4 1", "4* vane 0 0 0", "10* see 0 0 0",
                "30* ask 0", "8* letter 32", "count 0 = 6", "count 1 = 6", "count 2 = 4", "count 3 = 10",
                "count 4 = 8", "count 5 = 2", "count 6 = 30");
        edge("OUTSIDE", "on n", "count -1 = OUTSIDE", "count 7 = OUTSIDE", "count LOWEST = OUTSIDE",
                "count HIGHEST = OUTSIDE");
        edge("OUTSIDE with no DAY, too", "count -1 = OUTSIDE", "count 7 = OUTSIDE");
        edge("WINDS that are known: none, one less, one more", "on ??", "count 1 = 0", "wind 1 3", "count 1 = 1",
                "wind 1 2", "count 1 = 1", "wind 0 0", "count 1 = 2", "wind 1 NONE", "count 1 = 1");
        edge("how often a DAY was read: a refused one is not", "day = STATE", "page !", "day = STATE", "count 5 = 0",
                "blank", "on n", "on n", "on n", "count 5 = 3");
    }

    private static void digests() {
        edge("h is 823, without anything", "digest = " + digestOf(0, 0, 0, 0, 0, 0, 0));
        edge("with a DAY how many are FITTING", "on n", "digest = " + digestOf(1, 1, 1, 1, 0, 0, 0, 1, 0));
        edge("with a DAY how many are FITTING: none, too", "on n", "vane 0 0 0", "see 0 0 1",
                "digest = " + digestOf(0, 0, 0, 1, 0, 1, 2, 3, 0, 0, 0, 1, 1, 1, 1, 0, 1, 0));
        edge("as longs: ten numbers are below 2 to the 63", "page nes",
                "digest = " + digestOf('n', 'e', 's', 0, 0, 0, 0, 3, 0, 0));
        edge("as longs, wrapping: eleven numbers are not", "page nesw",
                "digest = " + digestOf('n', 'e', 's', 'w', 0, 0, 0, 0, 4, 0, 0));
        edge("letters of THE PAGE, each by its code: the least and the greatest, eight of them", "letter 32",
                "letter 126", "6* letter 33",
                "digest = " + digestOf(32, 126, 33, 33, 33, 33, 33, 33, 0, 0, 0, 0, 8, 0, 0));
        edge("of each VANE, POINTS in each HOUR; of each HOUR BLOWS", "on e?", "vane 4 3 3", "vane 2 1 2", "see 1 1 3",
                "letter 126", "ask 0", "digest = " + digestOf(
                        4, 3, 3, 0, 3, 0, 1, 1, 1, 2,
                        2, 1, 2, 1, 0, 1, 0, 3, 2, 8,
                        2, 8, 1, 126, 2, 1, 2, 1, 1, 1, 1));
        edge("of all there can be: four VANES, six HOURS, ten SEEN, eight letters, 30 asked", "on wwwwww",
                "4* vane 0 3 0", "10* see 3 0 3", "30* ask 0", "8* letter 126", "digest = " + digestOf(
                        0, 3, 0, 0, 0, 1, 2, 3, 8, 8, 8, 8, 8, 8,
                        0, 3, 0, 0, 0, 1, 2, 3, 8, 8, 8, 8, 8, 8,
                        0, 3, 0, 0, 0, 1, 2, 3, 8, 8, 8, 8, 8, 8,
                        0, 3, 0, 10, 0, 1, 2, 3, 8, 8, 8, 8, 8, 8,
                        8, 8, 8, 8, 8, 8, 1,
                        126, 126, 126, 126, 126, 126, 126, 126, 6, 6, 4, 10, 8, 1, 30));
        edge("it changes nothing and is not counted", "on n?", "vane 0 0 0", "digest", "digest", "count 6 = 0",
                "fitting = 4");
    }

    /** 823, then 31 times it and each number, as longs: found with whole numbers of any size. */
    private static long digestOf(long... told) {
        BigInteger h = BigInteger.valueOf(823);
        for (long it : told) {
            h = h.multiply(BigInteger.valueOf(31)).add(BigInteger.valueOf(it));
        }
        return h.longValue();
    }

    private static void lastCall() {
        for (String last : new String[] {"letter 33 = 1", "blank = 0", "fault = 0", "day = STATE", "wind 0 2 = NONE",
            "vane 4 0 1 = 1", "about 0 0 = 1", "as 0 1 = 0", "oil 0 2 = 3", "see 0 0 3 = 1", "forget = 0",
            "fitting = 16", "points 0 0 = {0,1,3}", "blows 1 = {0,1,2,3}", "ask 2 = 5", "proof 1 0 = NONE",
            "sorts 0 0 = 20", "oiling 0 0 0 = STATE", "gusts 1 0 1 = 1406932606", "image = 1", "restore = STATE",
            "count 6 = 29",
            "digest = " + digestOf(1, 0, 3, 0, 0, 1, 1, 3, 11, 15, 15, 15, 16, 2, 0, 1, 0, 0, 1, 29)}) {
            edges++;
            Subject x = new Subject();
            for (String line : new String[] {"on ??", "vane 1 0 3", "29* ask 0"}) {
                perform(x, null, line);
            }
            while (x.calls < MOST_CALLS - 1) {
                x.call("wind", 1, SwornVane.NONE);
            }
            perform(x, null, last);
            check("it was not the last one that is promised", x.calls == MOST_CALLS);
        }
    }

    // ---- how a run is read

    private static void edge(String sentence, String... lines) {
        edges++;
        Subject all = new Subject();
        Subject twin = new Subject();
        int wrongAhead = wrong;
        for (String line : lines) {
            perform(all, twin, line);
        }
        check("it is another one than without the refused calls", all.state().equals(twin.state()));
        if (wrong > wrongAhead) {
            System.out.println("    in \"" + sentence + "\": " + String.join("; ", lines));
        }
    }

    private static void check(String what, boolean holds) {
        if (!holds) {
            wrong++;
            System.out.println(what);
        }
    }

    /**
     * Performs a line: "page x.." its letters, "on x.." its letters and day(), "3* call" the call three times.
     * The twin may be null.
     */
    private static void perform(Subject all, Subject twin, String line) {
        if (line.startsWith("page ") || line.startsWith("on ")) {
            String text = line.substring(line.indexOf(' ') + 1);
            for (char letter : text.toCharArray()) {
                performOne(all, twin, "letter " + (int) letter);
            }
            if (line.startsWith("on ")) {
                performOne(all, twin, "day = " + text.length());
            }
            return;
        }
        int star = line.indexOf("* ");
        int times = star < 0 ? 1 : Integer.parseInt(line.substring(0, star));
        for (int i = 0; i < times; i++) {
            performOne(all, twin, line.substring(star < 0 ? 0 : star + 2));
        }
    }

    private static void performOne(Subject all, Subject twin, String line) {
        String[] sides = line.split(" = ");
        String[] words = sides[0].split(" ");
        int[] numbers = new int[words.length - 1];
        for (int i = 0; i < numbers.length; i++) {
            numbers[i] = (int) number(words[i + 1]);
        }
        long got = all.call(words[0], numbers);
        boolean isRefused = !words[0].equals("digest") && got <= SwornVane.UNKNOWN && got >= SwornVane.FULL;
        if (sides.length > 1) {
            long due = number(sides[1]);
            check(sides[0] + " answered " + got + ", due is " + due, got == due);
        } else {
            check(sides[0] + " was refused by " + got, !isRefused);
        }
        if (twin == null) {
            return;
        }
        if (isRefused) {
            check(sides[0] + " was refused and changed something", all.call("digest") == twin.call("digest"));
        } else {
            twin.call(words[0], numbers);
        }
    }

    /** A number, the name of one, or QUARTERS or VANES in braces as bits. */
    private static long number(String text) {
        switch (text) {
            case "NONE": return SwornVane.NONE;
            case "UNKNOWN": return SwornVane.UNKNOWN;
            case "OUTSIDE": return SwornVane.OUTSIDE;
            case "STATE": return SwornVane.STATE;
            case "FULL": return SwornVane.FULL;
            case "LOWEST": return Integer.MIN_VALUE;
            case "HIGHEST": return Integer.MAX_VALUE;
            default: return text.startsWith("{") ? bits(text) : Long.parseLong(text);
        }
    }

    private static long bits(String braces) {
        long bits = 0;
        for (char sign : braces.toCharArray()) {
            if (Character.isDigit(sign)) {
                bits |= 1L << (sign - '0');
            }
        }
        return bits;
    }

    /** An object under test, which counts its calls. */
    private static final class Subject {
        private final SwornVane it = new SwornVane();
        private int calls = 0;

        long call(String name, int... n) {
            calls++;
            check("more calls than are promised", calls <= MOST_CALLS);
            switch (name + " " + n.length) {
                case "letter 1": return it.letter(n[0]);
                case "blank 0": return it.blank();
                case "fault 0": return it.fault();
                case "day 0": return it.day();
                case "wind 2": return it.wind(n[0], n[1]);
                case "vane 3": return it.vane(n[0], n[1], n[2]);
                case "about 2": return it.about(n[0], n[1]);
                case "as 2": return it.as(n[0], n[1]);
                case "oil 2": return it.oil(n[0], n[1]);
                case "see 3": return it.see(n[0], n[1], n[2]);
                case "forget 0": return it.forget();
                case "fitting 0": return it.fitting();
                case "points 2": return it.points(n[0], n[1]);
                case "blows 1": return it.blows(n[0]);
                case "ask 1": return it.ask(n[0]);
                case "proof 2": return it.proof(n[0], n[1]);
                case "sorts 2": return it.sorts(n[0], n[1]);
                case "oiling 3": return it.oiling(n[0], n[1], n[2]);
                case "gusts 3": return it.gusts(n[0], n[1], n[2]);
                case "image 0": return it.image();
                case "restore 0": return it.restore();
                case "count 1": return it.count(n[0]);
                case "digest 0": return it.digest();
                default: throw new IllegalArgumentException(name + " with " + n.length + " numbers");
            }
        }

        /** All that calls can tell of it: as it is, by its IMAGE, and of each with no WIND known and nothing SEEN. */
        String state() {
            StringBuilder told = new StringBuilder();
            for (int i = 0; i < 2; i++) {
                tell(told, call("digest"), call("fault"), call("gusts", 3, 12345, 0), call("gusts", 3, 12345, 1));
                for (int hour = 0; hour < it.count(0); hour++) {
                    tell(told, call("wind", hour, SwornVane.NONE));
                }
                tell(told, call("digest"), call("forget"), call("digest"), call("restore"));
            }
            return told.toString();
        }

        private static void tell(StringBuilder told, long... answers) {
            for (long answer : answers) {
                told.append(answer).append(' ');
            }
        }
    }
}
