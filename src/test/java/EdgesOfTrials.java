/** Promises 25 to 34: what was seen, chance, what is tried otherwise, undone, kept and counted. */
final class EdgesOfTrials extends Check {
    private static final int[] FAR_OFF = {Integer.MIN_VALUE, Integer.MIN_VALUE + 1, Integer.MAX_VALUE};
    private static final String PAIR = "bench b 1 2;walker a 0 0 1 0;walker d 0 0 1 0;rest a b 30;rest d b 30;";
    // By paces 1 .. 9 he comes to the bench in 9, 5, 3, 3, 2, 2, 2, 2, 1 minutes.
    private static final String NINE = "bench b 9 1;walker a 0 0 4 0;rest a b 30;";
    private static final int ALL_PACES = 511;

    // ---- promises 25 to 28

    @Says({"SEEN: its number;", "SEEN, at most 24, numbered from 0 on: behind so many MINUTES 1 .. 60", "a BENCH was WORN so much 0 .. 9999 at least, or less."})
    static void promise25_see_numberedFrom0On() {
        HalfLandings x = told(NINE);
        due("the first", x.see(1, 0, 0, true), 0);
        due("the second", x.see(60, 0, 9999, false), 1);
        due("the third", x.strike(0), 2);
        due("the fourth", x.see(1, 0, 0, true), 3);
        due("count(11)", x.count(11), 4);
    }

    @Says("NONE: no such ones, or there are 24.")
    static void promise25_see_noSuchOnes() {
        HalfLandings x = told("bench c 2 1;" + NINE);
        due("see(0, ..)", x.see(0, 0, 0, true), NONE);
        due("see(61, ..)", x.see(61, 0, 0, true), NONE);
        due("see(-1, ..)", x.see(-1, 0, 0, false), NONE);
        due("see(.., 2, ..)", x.see(1, 2, 0, true), NONE);
        due("see(.., -1, ..)", x.see(1, -1, 0, true), NONE);
        due("see(.., -1)", x.see(1, 0, -1, true), NONE);
        due("see(.., 10000)", x.see(1, 0, 10000, false), NONE);
        for (int far : FAR_OFF) {
            due("see(" + far + ", ..)", x.see(far, 0, 0, true), NONE);
            due("see(.., " + far + ", ..)", x.see(1, far, 0, true), NONE);
            due("see(.., " + far + ")", x.see(1, 0, far, true), NONE);
        }
        due("none was seen", x.count(11), 0);
        due("the second bench", x.see(1, 1, 0, true), 0);
        due("without benches", new HalfLandings().see(1, 0, 0, true), NONE);
    }

    @Says({"or there are 24.", "SEEN, at most 24,"})
    static void promise25_see_24AtMost() {
        HalfLandings x = told(NINE);
        for (int i = 0; i < 24; i++) {
            due("see", x.see(1, 0, 0, true), i);
        }
        due("a 25th", x.see(1, 0, 9999, true), NONE);
        due("24", x.count(11), 24);
        due("it counts not", x.paces(0), ALL_PACES);
    }

    @Says({"behind so many MINUTES 1 .. 60", "a BENCH was WORN so much 0 .. 9999 at least, or less."})
    static void promise25_see_atLeastOrLess() {
        due("0 at least is always so", seen(1, 0, true), ALL_PACES);
        due("less than 0 never", seen(60, 0, false), 0);
        due("9999 at least never", seen(60, 9999, true), 0);
        due("less than 9999 is so", seen(60, 9999, false), ALL_PACES);
        due("1 at least behind 1 minute", seen(1, 1, true), 256);
        due("less than 1 behind 1 minute", seen(1, 1, false), 255);
        due("1 at least behind 5 minutes", seen(5, 1, true), ALL_PACES - 1);
        due("2 at least behind 5 minutes", seen(5, 2, true), ALL_PACES - 3);
        due("less than 2 behind 5 minutes", seen(5, 2, false), 3);
        due("30 at least behind 60 minutes", seen(60, 30, true), ALL_PACES);
        due("31 at least behind 60 minutes", seen(60, 31, true), 0);
    }

    @Says("a BENCH was WORN so much 0 .. 9999 at least, or less.")
    static void promise25_see_eachBench() {
        HalfLandings x = told("bench c 3 1;bench b 9 1;walker a 0 0 4 0;rest a b 30;");
        x.see(1, 1, 1, true);
        due("the second", x.paces(0), 256);
        x.see(60, 0, 1, false);
        due("the first is never worn", x.paces(0), 256);
        x.see(60, 0, 1, true);
        due("and so that can't be", x.paces(0), 0);
    }

    private static int seen(int minutes, int worn, boolean atLeast) {
        HalfLandings x = told(NINE);
        x.see(minutes, 0, worn, atLeast);
        return x.paces(0);
    }

    @Says({"One that strikes one SEEN: its number;", "One may strike one ahead of it (STRUCK)."})
    static void promise26_strike_oneAheadOfIt() {
        HalfLandings x = told(NINE);
        due("its own number to be", x.strike(0), NONE);
        x.see(1, 0, 1, true);
        due("strike(1) isn't ahead of it", x.strike(1), NONE);
        due("strike(0)", x.strike(0), 1);
        due("strike(0) again", x.strike(0), 2);
        due("what strikes", x.strike(1), 3);
        due("count(11)", x.count(11), 4);
        due("it is STRUCK by 2", x.paces(0), ALL_PACES);
        due("strike(2)", x.strike(2), 4);
        due("neither strikes", x.paces(0), 256);
    }

    @Says("NONE: no such one, or there are 24.")
    static void promise26_strike_noSuchOne() {
        HalfLandings x = told(NINE);
        due("of none", x.strike(0), NONE);
        x.see(1, 0, 1, true);
        due("strike(1)", x.strike(1), NONE);
        due("strike(-1)", x.strike(-1), NONE);
        for (int far : FAR_OFF) {
            due("strike(" + far + ")", x.strike(far), NONE);
        }
        due("nothing is struck", x.paces(0), 256);
        for (int i = 1; i < 24; i++) {
            due("see", x.see(1, 0, 0, true), i);
        }
        due("there are 24", x.strike(0), NONE);
        due("strike(23)", x.strike(23), NONE);
        due("nothing is struck yet", x.paces(0), 256);
    }

    @Says({"KNOWN by n (all at first): the first n that aren't STRUCK by one of these",
        "(what strikes may be STRUCK: then it doesn't count; asked from the last one on)."})
    static void promise27_known_struckByOneOfThese() {
        HalfLandings x = told(NINE);
        x.see(1, 0, 1, true);
        for (int i = 0; i < 23; i++) {
            due("a strike", x.strike(i), i + 1);
        }
        // A chain: 23 strikes 22, so 22 doesn't strike 21, and so on; an odd number of strikes leaves 0 struck.
        due("by all", x.paces(0), ALL_PACES);
        for (int n = 0; n <= 24; n++) {
            due("known(" + n + ")", x.known(n), true);
            due("paces by " + n, x.paces(0), n > 0 && n % 2 == 1 ? 256 : ALL_PACES);
        }
    }

    @Says({"KNOWN by n from now on (-1: by all, also those to come): true;", "KNOWN by n (all at first):"})
    static void promise27_known_allAlsoThoseToCome() {
        HalfLandings x = told(NINE);
        x.see(1, 0, 1, true);
        due("all at first", x.paces(0), 256);
        due("known(0)", x.known(0), true);
        due("by none", x.paces(0), ALL_PACES);
        due("known(1)", x.known(1), true);
        x.see(1, 0, 9999, true);
        due("those to come are not among 1", x.paces(0), 256);
        due("by 1", x.count(12), 1);
        due("known(-1)", x.known(-1), true);
        due("by both", x.paces(0), 0);
        x.strike(1);
        due("and those to come", x.paces(0), 256);
        due("by 3", x.count(12), 3);
        due("known(2)", x.known(2), true);
        due("what strikes is beyond", x.paces(0), 0);
    }

    @Says("false: no such n.")
    static void promise27_known_noSuchN() {
        HalfLandings x = told(NINE);
        due("known(0) of none", x.known(0), true);
        due("known(1) of none", x.known(1), false);
        x.see(1, 0, 1, true);
        x.known(-1);
        due("known(2)", x.known(2), false);
        due("known(-2)", x.known(-2), false);
        for (int far : FAR_OFF) {
            due("known(" + far + ")", x.known(far), false);
        }
        due("by all yet", x.paces(0), 256);
        due("known(1)", x.known(1), true);
    }

    @Says({"PACES (bits);", "PACES of a WALKER: 1 .. 9 (bits 0 .. 8) that he may have, in place of his own, by which all KNOWN ones are so."})
    static void promise28_paces_bits0To8() {
        HalfLandings x = told(NINE);
        due("nothing SEEN", x.paces(0), ALL_PACES);
        x.see(8, 0, 1, false);
        due("only 1", x.paces(0), 1);
        HalfLandings y = told(NINE);
        y.see(1, 0, 1, true);
        due("only 9", y.paces(0), 256);
        y.see(8, 0, 1, false);
        due("both can't be", y.paces(0), 0);
        due("his own stays", y.walker(0, 3), 4);
    }

    @Says("in place of his own, by which all KNOWN ones are so.")
    static void promise28_paces_othersHaveTheirOwn() {
        HalfLandings x = told("bench b 9 2;walker a 0 0 4 0;walker d 0 0 9 0;rest d b 30;");
        x.see(1, 0, 1, true);
        due("a may have any", x.paces(0), ALL_PACES);
        due("d has 9", x.paces(1), 256);
        HalfLandings six = told("bench b 9 3;" + counted("walker @ 0 0 # 0;", 6) + "rest f b 30;");
        six.see(2, 0, 1, true);
        due("the sixth", six.paces(5), 496);
        due("the first", six.paces(0), ALL_PACES);
    }

    @Says("(as it goes from the TEXT on, nothing done by call)")
    static void promise28_paces_fromTheTextOn() {
        HalfLandings x = told(NINE + "piano 15;");
        x.see(4, 0, 2, true);
        int want = 4 + 8 + 16 + 32 + 64 + 128 + 256;
        due("ahead of all", x.paces(0), want);
        x.go(5);
        x.rise(0);
        x.push(-3);
        due("behind minutes, rising and pushing", x.paces(0), want);
        due("no minute went by", x.count(5), 5);
        due("one is called from 50 on", calledPaces(50), 0);
        due("nobody is called below", calledPaces(49), want);
    }

    private static int calledPaces(int call) {
        HalfLandings x = told(NINE + "call " + call + ";");
        x.see(4, 0, 2, true);
        return x.paces(0);
    }

    @Says("NONE: no such WALKER.")
    static void promise28_paces_noSuchWalker() {
        HalfLandings x = told(NINE);
        due("paces(1)", x.paces(1), NONE);
        due("paces(-1)", x.paces(-1), NONE);
        for (int far : FAR_OFF) {
            due("paces(" + far + ")", x.paces(far), NONE);
        }
        due("paces(0) of none", new HalfLandings().paces(0), NONE);
    }

    // ---- promises 29 and 30

    /** Two who sit together for 30 minutes, drawn ten times with the numbers going on. */
    private static int timesDrawn(long seed, int call, int minutes, int talk) {
        long state = seed;
        int times = 0;
        for (int run = 0; run < 10; run++) {
            boolean[] sits = {true, true};
            int talked = 0;
            for (int minute = 1; minute <= Math.min(minutes, 30); minute++) {
                talked += sits[0] && sits[1] ? 1 : 0;
                for (int who = 0; who < 2; who++) {
                    if (sits[who] && minute < 30) {
                        state = nextState(state);
                        sits[who] = !isCalled(state, call);
                    }
                }
            }
            times += talked >= talk ? 1 : 0;
        }
        return times;
    }

    @Says("In how many of ten times drawn (numbers from a seed 0 .. 2147483647 on, one behind another; n 1 .. 99 MINUTES from now)")
    static void promise29_chance_oneBehindAnother() {
        HalfLandings x = told(PAIR + "call 15;seed 99;");
        for (int seed : new int[] {0, 1, 5, 65535, 99999, 1 << 30, Integer.MAX_VALUE - 1, Integer.MAX_VALUE}) {
            for (int n : new int[] {1, 2, 29, 30, 99}) {
                for (int talk = 0; talk <= 4; talk++) {
                    due("chance(" + seed + ", " + n + ", " + talk + ")", x.chance(seed, n, talk), timesDrawn(seed, 15, n, talk));
                }
            }
        }
    }

    @Says("TALK is more by so much 0 .. 9999 at least then;")
    static void promise29_chance_moreBySoMuch() {
        HalfLandings x = told(PAIR + "call 0;");
        due("0", x.chance(0, 1, 0), 10);
        due("1 in 1", x.chance(0, 1, 1), 10);
        due("2 in 1", x.chance(0, 1, 2), 0);
        due("30 in 99", x.chance(0, 99, 30), 10);
        due("31 in 99", x.chance(0, 99, 31), 0);
        due("9999", x.chance(0, 99, 9999), 0);
        x.go(5);
        due("what was talked counts not", x.chance(0, 1, 2), 0);
        due("one more", x.chance(0, 1, 1), 10);
        HalfLandings y = told(PAIR + "call 100;");
        due("always called: 1", y.chance(7, 99, 1), 10);
        due("always called: 2", y.chance(7, 99, 2), 0);
    }

    @Says("NONE: no such ones.")
    static void promise29_chance_noSuchOnes() {
        HalfLandings x = told(PAIR);
        due("chance(-1, 1, 0)", x.chance(-1, 1, 0), NONE);
        due("chance(the least, 1, 0)", x.chance(Integer.MIN_VALUE, 1, 0), NONE);
        due("chance(0, 0, 0)", x.chance(0, 0, 0), NONE);
        due("chance(0, 100, 0)", x.chance(0, 100, 0), NONE);
        due("chance(0, 1, -1)", x.chance(0, 1, -1), NONE);
        due("chance(0, 1, 10000)", x.chance(0, 1, 10000), NONE);
        for (int far : FAR_OFF) {
            due("chance(0, " + far + ", 0)", x.chance(0, far, 0), NONE);
            due("chance(0, 1, " + far + ")", x.chance(0, 1, far), NONE);
        }
    }

    @Says({"TRIED (n 0 .. 200);", "TRIED for n MINUTES as it goes: TALK more: 0 as it goes, 1 nobody is called,"})
    static void promise30_tried_asItGoesAndNobodyCalled() {
        HalfLandings x = told(PAIR + "call 50;");
        due("as it goes", x.tried(0, 0, 200), 1);
        due("nobody is called", x.tried(1, 0, 200), 30);
        due("nobody is called in 0", x.tried(1, 0, 0), 0);
        due("nobody is called in 7", x.tried(1, 0, 7), 7);
        HalfLandings sure = told(PAIR + "call 100;");
        due("nobody is called at 100", sure.tried(1, 0, 200), 30);
        due("as it goes at 100", sure.tried(0, 0, 200), 1);
        HalfLandings y = told(PAIR + "call 49;");
        due("as it goes at 49", y.tried(0, 0, 200), 30);
        HalfLandings z = told(PAIR);
        z.go(10);
        due("TALK more", z.tried(0, 0, 200), 20);
    }

    @Says("2 WALKER i is OUT now,")
    static void promise30_tried_oneIsOutNow() {
        String text = "bench b 1 2;" + counted("walker @ 0 0 1 0;", 3) + "rest a b 9;rest b b 9;rest c b 9;";
        HalfLandings x = told(text);
        due("as it goes a and b", x.tried(0, 0, 20), 9);
        due("without a: b and c", x.tried(2, 0, 20), 9);
        due("without c: a and b", x.tried(2, 2, 20), 9);
        due("one who waits", told(PAIR).tried(2, 1, 20), 0);
        x.go(1);
        due("one who sits", x.tried(2, 0, 20), 0);
        due("c walks on", x.tried(2, 2, 20), 8);
        due("he sits yet", x.walker(0, 0), 2);
        x.go(30);
        due("one who is out", x.tried(2, 0, 20), 0);
        // Behind the first minute d waits for a's seat.
        HalfLandings y = told("bench b 1 2;walker a 0 0 1 0;walker e 0 0 1 0;walker d 0 0 1 1;rest a b 9;rest e b 9;rest d b 9;");
        y.go(1);
        due("his seat is another one's", y.tried(2, 0, 20), 8);
    }

    @Says({"3 no piano,", "4 all RESTS are taken,", "5 each BENCH has 3 SEATS."})
    static void promise30_tried_pianoRestsSeats() {
        HalfLandings x = told(PAIR + "piano 1;");
        due("with the piano", x.tried(0, 0, 50), 0);
        due("without it", x.tried(3, 0, 50), 30);
        due("it is there", x.piano(), 1);
        due("without one anyway", told(PAIR).tried(3, 0, 50), 30);
        HalfLandings y = told(PAIR + "law sits 1;");
        due("rests", y.tried(0, 0, 50), 30);
        due("all taken: by the law", y.tried(4, 0, 50), 1);
        due("none is taken", y.count(10), 0);
        due("all taken, no law", told(PAIR).tried(4, 0, 50), 0);
        y.go(1);
        due("who sits, sits on", y.tried(4, 0, 50), 29);
        HalfLandings z = told("bench b 1 1;" + counted("walker @ 0 0 1 0;", 4) + counted("rest @ b 2;", 4));
        due("one seat", z.tried(0, 0, 50), 0);
        due("three seats", z.tried(5, 0, 50), 6);
        due("one seat yet", z.bench(0, 1), 1);
    }

    @Says("NONE: no such ones (i 0 of all but 2).")
    static void promise30_tried_noSuchOnes() {
        HalfLandings x = told(PAIR);
        due("tried(-1, 0, 1)", x.tried(-1, 0, 1), NONE);
        due("tried(6, 0, 1)", x.tried(6, 0, 1), NONE);
        for (int what = 0; what <= 5; what++) {
            due("tried(" + what + ", 0, -1)", x.tried(what, 0, -1), NONE);
            due("tried(" + what + ", 0, 201)", x.tried(what, 0, 201), NONE);
            due("tried(" + what + ", -1, 1)", x.tried(what, -1, 1), NONE);
            due("tried(" + what + ", 2, 1)", x.tried(what, 2, 1), NONE);
            due("tried(" + what + ", 1, 1)", x.tried(what, 1, 1), what == 2 ? 0 : NONE);
            for (int far : FAR_OFF) {
                due("tried(" + what + ", " + far + ", 1)", x.tried(what, far, 1), NONE);
                due("tried(" + what + ", 0, " + far + ")", x.tried(what, 0, far), NONE);
            }
        }
        for (int far : FAR_OFF) {
            due("tried(" + far + ", 0, 1)", x.tried(far, 0, 1), NONE);
        }
        due("tried(2, 0, 1) of none", new HalfLandings().tried(2, 0, 1), NONE);
    }

    // ---- promises 31 to 33

    @Says({"The latest is undone: how many are left;", "Sitting, rising, pushing by call can be undone, the latest first"})
    static void promise31_undo_theLatestFirst() {
        HalfLandings x = told("bench b 1 1;walker a 0 0 1 0;walker d 0 0 1 0;piano 9;");
        x.go(1);
        x.sit(0, 7);
        x.rise(0);
        x.sit(1, 5);
        x.push(-2);
        due("four", x.count(13), 4);
        due("the push", x.undo(), 3);
        due("piano", x.piano(), 9);
        due("d's sitting", x.undo(), 2);
        due("d walks", x.walker(1, 0) * 100 + x.walker(1, 4), 100);
        due("a's rising", x.undo(), 1);
        due("a sits for 7", x.walker(0, 0) * 100 + x.walker(0, 4), 207);
        due("a's sitting", x.undo(), 0);
        due("a walks", x.walker(0, 0) * 100 + x.walker(0, 4), 100);
        due("none is left", x.undo(), NONE);
    }

    @Says("The latest is undone: how many are left; NONE: none.")
    static void promise31_undo_none() {
        HalfLandings x = told("piano 9;");
        due("at first", x.undo(), NONE);
        x.push(9);
        x.push(0);
        x.rise(0);
        x.sit(0, 1);
        due("what could not be", x.undo(), NONE);
        due("the piano stays", x.piano(), 9);
        x.push(1);
        due("one", x.undo(), 0);
        due("undoing can't be undone", x.undo(), NONE);
    }

    @Says("(20 at most)")
    static void promise31_undo_20AtMost() {
        HalfLandings x = told("stair 60;piano 1;");
        for (int i = 1; i <= 20; i++) {
            x.push(1);
            due("count(13)", x.count(13), i);
        }
        x.push(1);
        x.push(1);
        due("20 yet", x.count(13), 20);
        due("at 23", x.piano(), 23);
        for (int i = 19; i >= 0; i--) {
            due("undo()", x.undo(), i);
            due("the piano", x.piano(), 3 + i);
        }
        due("none is left", x.undo(), NONE);
        due("the first two stay", x.piano(), 3);
        x.push(1);
        due("room again", x.undo(), 0);
    }

    @Says({"(20 at most)", "the latest first"})
    static void promise31_undo_20OfAllKinds() {
        HalfLandings x = told("stair 60;bench b 1 1;walker a 0 0 1 0;piano 10;");
        x.go(1);
        // A push, a sitting, a rising in turn: 24, of which 20 can be undone.
        for (int i = 0; i < 8; i++) {
            x.push(1);
            x.sit(0, i + 1);
            x.rise(0);
        }
        due("20", x.count(13), 20);
        for (int i = 7; i >= 2; i--) {
            x.undo();
            due("he sits again", x.walker(0, 4), i + 1);
            x.undo();
            due("he walks again", x.walker(0, 0) * 10 + x.walker(0, 4), 10);
            x.undo();
            due("the piano", x.piano(), 10 + i);
        }
        due("two are left", x.count(13), 2);
        due("one is left", x.undo(), 1);
        due("he sits", x.walker(0, 4), 2);
        due("none is left", x.undo(), 0);
        due("he walks", x.walker(0, 0), 1);
        due("no more", x.undo(), NONE);
        due("the piano was pushed twice", x.piano(), 12);
    }

    @Says("if no MINUTE went by since.")
    static void promise31_undo_noMinuteSince() {
        HalfLandings x = told("piano 9;");
        x.push(1);
        x.go(0);
        due("no minute by go(0)", x.count(13), 1);
        x.go(-1);
        x.go(201);
        due("no minute by a wrong go", x.count(13), 1);
        x.ahead(50, 0, 0);
        x.chance(1, 50, 1);
        x.tried(3, 0, 50);
        x.keep();
        due("no minute by looking", x.count(13), 1);
        x.go(1);
        due("a minute", x.count(13), 0);
        due("undo()", x.undo(), NONE);
        due("the piano stays", x.piano(), 10);
        x.push(1);
        x.text(-1);
        x.text(0);
        due("nothing behind a text", x.undo(), NONE);
    }

    @Says("An IMAGE is kept (in place of one ahead): which MINUTE it is.")
    static void promise32_keep_inPlaceOfOneAhead() {
        HalfLandings x = told(PAIR);
        due("keep in 0", x.keep(), 0);
        x.go(3);
        due("back to 0", x.back(), 0);
        due("back to 0 again", x.back(), 0);
        x.go(5);
        due("keep in 5", x.keep(), 5);
        x.go(5);
        due("back to 5", x.back(), 5);
        due("talk", x.count(6), 5);
        due("keep of a new object", new HalfLandings().keep(), 0);
    }

    @Says({"All (but what was SEEN) is as in the IMAGE (nothing to undo then): which MINUTE it is;", "An IMAGE keeps all but what was SEEN."})
    static void promise33_back_allIsAsInTheImage() {
        HalfLandings x = told(PAIR + "walker o 1 1 1 2;piano 9;call 5;seed " + seedOfNoCall(5, 4) + ";law wear 2;");
        x.go(2);
        x.push(1);
        x.keep();
        due("keeping leaves what can be undone", x.count(13), 1);
        int[] then = everything(x);
        x.go(3);
        int[] later = everything(x);
        x.go(100);
        x.push(2);
        due("back()", x.back(), 2);
        due("nothing to undo", x.undo(), NONE);
        same("as it was", everything(x), then);
        x.go(3);
        same("the same numbers come", everything(x), later);
        HalfLandings y = told(PAIR);
        y.keep();
        y.go(40);
        due("they met", y.walker(0, 6) * 10 + y.walker(1, 6), 21);
        y.back();
        due("nobody met yet", y.walker(0, 6) * 10 + y.walker(1, 6), 0);
    }

    private static void same(String what, int[] got, int[] want) {
        for (int i = 0; i < want.length; i++) {
            due(what + ", " + i, got[i], want[i]);
        }
    }

    private static int[] everything(HalfLandings x) {
        int[] all = new int[40];
        int at = 0;
        for (int walker = 0; walker < 3; walker++) {
            for (int what = 0; what <= 6; what++) {
                all[at++] = x.walker(walker, what);
            }
        }
        all[at++] = x.bench(0, 2);
        all[at++] = x.bench(0, 3);
        all[at++] = x.restOf(0, 3);
        all[at++] = x.restOf(1, 3);
        all[at++] = x.piano();
        for (int what = 5; what <= 10; what++) {
            all[at++] = x.count(what);
        }
        return all;
    }

    @Says("An IMAGE keeps all but what was SEEN.")
    static void promise33_back_whatWasSeenStays() {
        HalfLandings x = told(NINE);
        x.see(1, 0, 1, true);
        x.keep();
        x.see(8, 0, 1, false);
        x.strike(0);
        x.back();
        due("three", x.count(11), 3);
        due("paces", x.paces(0), 1);
        due("the next one", x.see(1, 0, 0, true), 3);
    }

    @Says("NONE: there is none.")
    static void promise33_back_thereIsNone() {
        HalfLandings x = new HalfLandings();
        due("of a new object", x.back(), NONE);
        x.keep();
        due("kept", x.back(), 0);
        tell(x, PAIR);
        x.go(4);
        due("none behind a text", x.back(), NONE);
        due("and nothing changes", x.count(5), 4);
        x.keep();
        tell(x, "x");
        due("a fault leaves it", x.back(), 4);
    }

    // ---- promise 34

    @Says({"0 BENCHES, 1 WALKERS, 2 RESTS, 3 the TOP, 4 KNOTS, 5 the MINUTE, 6 TALK, 7 OUT, 8 how many SIT, 9 WORN of all BENCHES,",
        "10 RESTS taken, 11 SEEN, 12 by how many it is KNOWN, 13 what can be undone."})
    static void promise34_count_all() {
        // o is out; a, d sit on b, e sits on c; f waits.
        HalfLandings x = told("stair 30;bench b 1 2;bench c 2 1;walker a 0 0 1 0;walker d 0 0 1 0;walker e 0 0 2 0;walker f 0 0 1 99;walker o 0 1 1 0;"
            + "rest a b 9;rest d b 9;rest e c 9;rest f c 9;piano 9;law talk 2+2;law wear 7;");
        x.go(2);
        x.push(1);
        x.push(1);
        x.see(1, 0, 0, true);
        x.see(1, 0, 0, true);
        x.strike(0);
        x.known(2);
        int[] want = {2, 5, 4, 30, 4, 2, 8, 1, 3, 42, 3, 3, 2, 2};
        for (int what = 0; what <= 13; what++) {
            due("count(" + what + ")", x.count(what), want[what]);
        }
        x.known(-1);
        due("by all", x.count(12), 3);
    }

    @Says("NONE for another what.")
    static void promise34_count_anotherWhat() {
        HalfLandings x = told(PAIR);
        due("count(14)", x.count(14), NONE);
        due("count(-1)", x.count(-1), NONE);
        for (int far : FAR_OFF) {
            due("count(" + far + ")", x.count(far), NONE);
        }
    }

    @Says({"0 BENCHES, 1 WALKERS, 2 RESTS,", "9 WORN of all BENCHES,", "10 RESTS taken,"})
    static void promise34_count_nothingOfOlderTexts() {
        HalfLandings x = told("bench c 2 1;bench e 3 1;" + PAIR + "rest a c 3;rest d e 3;");
        x.go(60);
        due("all four taken", x.count(10), 4);
        due("worn", x.count(9), 66);
        for (int i = 0; i < 2; i++) {
            tell(x, "bench b 1 1;walker a 0 0 1 0;rest a b 2;");
            due("none taken", x.count(10), 0);
            due("nothing worn", x.count(9), 0);
            x.go(5);
            due("one taken", x.count(10), 1);
            due("worn by two", x.count(9), 2);
        }
    }

    @Says("9 WORN of all BENCHES,")
    static void promise34_count_wornOfAllBenches() {
        // Eight benches, six of them worn by one each.
        StringBuilder text = new StringBuilder("stair 9;" + counted("bench @ # 1;", 8) + counted("walker @ 0 0 # 0;", 6));
        for (char name = 'a'; name <= 'f'; name++) {
            text.append("rest ").append(name).append(' ').append(name).append(" 30;");
        }
        HalfLandings x = told(text.toString());
        x.go(4);
        due("worn", x.count(9), 24);
        due("the last two are not", x.bench(6, 2) + x.bench(7, 2), 0);
        due("six sit", x.count(8), 6);
        due("none is out", x.count(7), 0);
        x.go(60);
        due("all are out", x.count(7), 6);
        due("nobody sits", x.count(8), 0);
        due("six rests", x.count(10), 6);
    }
}
