/** Promises 15 to 24: what comes as it goes, and what can be worked out from now. */
final class EdgesOfLooks extends Check {
    private static final int[] FAR_OFF = {Integer.MIN_VALUE, Integer.MIN_VALUE + 1, Integer.MAX_VALUE};
    private static final String PAIR = "bench b 1 2;walker a 0 0 1 0;walker d 0 0 1 0;rest a b 30;rest d b 30;";
    private static final String ONE = "bench b 1 1;walker a 0 0 1 0;rest a b 30;";

    /**
     * u goes up from 0, v down from the top; both begin in minute 99 and rest three times for 30 minutes, so that
     * behind 189 minutes u is on 3, v on the TOP less 3, and each goes one step a minute from then on.
     */
    private static String slow(int top) {
        return "stair " + top + ";bench a 1 1;bench b 2 1;bench c 3 1;bench d " + (top - 1) + " 1;bench e " + (top - 2)
            + " 1;bench f " + (top - 3) + " 1;walker u 0 0 1 99;walker v " + top + " 1 1 99;rest u a 30;rest u b 30;rest u c 30;"
            + "rest v d 30;rest v e 30;rest v f 30;";
    }

    // ---- promise 15

    @Says({"AHEAD (n 0 .. 200), what 0 TALK, 1 WORN of BENCH i, 2 STEP of WALKER i, 3 OUT (of 0, 3 i isn't looked at).",
        "AHEAD for n MINUTES as it goes: TALK more, how much a BENCH is WORN then, the STEP of a WALKER then, how many are OUT then."})
    static void promise15_ahead_0To200() {
        HalfLandings x = told(PAIR);
        due("TALK in 0", x.ahead(0, 0, 0), 0);
        due("WORN in 0", x.ahead(0, 1, 0), 0);
        due("STEP in 0", x.ahead(0, 2, 1), 0);
        due("OUT in 0", x.ahead(0, 3, 0), 0);
        due("TALK in 200", x.ahead(200, 0, 0), 30);
        due("WORN in 200", x.ahead(200, 1, 0), 60);
        due("STEP in 200", x.ahead(200, 2, 1), 20);
        due("OUT in 200", x.ahead(200, 3, 0), 2);
        x.go(10);
        due("TALK more in 0", x.ahead(0, 0, 0), 0);
        due("TALK more in 5", x.ahead(5, 0, 0), 5);
        due("WORN in 0, all of it", x.ahead(0, 1, 0), 20);
        due("WORN in 5, all of it", x.ahead(5, 1, 0), 30);
    }

    @Says({"AHEAD for n MINUTES as it goes:", "RESTS, at most 12:"})
    static void promise15_ahead_theTwelfthRest() {
        // d turns at the piano and comes by b again.
        HalfLandings x = told("bench c 9 1;bench b 1 1;walker a 20 0 1 99;walker d 0 0 1 0;piano 3;" + times("rest a c 1;", 11) + "rest d b 9;");
        due("worn by it", x.ahead(50, 1, 1), 9);
        due("taken by looking ahead alone", x.ahead(50, 1, 1), 9);
        x.go(1);
        due("taken", x.restOf(11, 3), 1);
        due("taken once", x.ahead(50, 1, 1), 9);
        due("the minutes left of it", x.ahead(8, 2, 1), 1);
        due("on from it", x.ahead(9, 2, 1), 2);
    }

    @Says("(of 0, 3 i isn't looked at)")
    static void promise15_ahead_iIsNotLookedAt() {
        HalfLandings x = told(PAIR);
        for (int i : new int[] {-1, 2, 9, Integer.MIN_VALUE, Integer.MAX_VALUE}) {
            due("TALK by " + i, x.ahead(30, 0, i), 30);
            due("OUT by " + i, x.ahead(200, 3, i), 2);
        }
        due("without a text", new HalfLandings().ahead(200, 3, 5), 0);
    }

    @Says("NONE: no such ones.")
    static void promise15_ahead_noSuchOnes() {
        HalfLandings x = told("bench c 2 1;" + PAIR + "walker w 0 0 1 0;");
        due("ahead(-1, 0, 0)", x.ahead(-1, 0, 0), NONE);
        due("ahead(201, 0, 0)", x.ahead(201, 0, 0), NONE);
        due("ahead(1, -1, 0)", x.ahead(1, -1, 0), NONE);
        due("ahead(1, 4, 0)", x.ahead(1, 4, 0), NONE);
        due("the second bench", x.ahead(1, 1, 1), 2);
        due("ahead(1, 1, 2)", x.ahead(1, 1, 2), NONE);
        due("ahead(1, 1, -1)", x.ahead(1, 1, -1), NONE);
        due("the third walker", x.ahead(1, 2, 2), 1);
        due("ahead(1, 2, 3)", x.ahead(1, 2, 3), NONE);
        due("ahead(1, 2, -1)", x.ahead(1, 2, -1), NONE);
        for (int far : FAR_OFF) {
            due("ahead(" + far + ", 0, 0)", x.ahead(far, 0, 0), NONE);
            due("ahead(1, " + far + ", 0)", x.ahead(1, far, 0), NONE);
            due("ahead(1, 1, " + far + ")", x.ahead(1, 1, far), NONE);
            due("ahead(1, 2, " + far + ")", x.ahead(1, 2, far), NONE);
        }
    }

    @Says("AS IT GOES: without numbers: one is called, if call is 50 at least.")
    static void promise15_ahead_calledFrom50On() {
        due("call 49", told(PAIR + "call 49;").ahead(60, 0, 0), 30);
        due("call 50", told(PAIR + "call 50;").ahead(60, 0, 0), 1);
        due("call 0", told(PAIR + "call 0;").ahead(60, 0, 0), 30);
        due("call 1", told(PAIR + "call 1;").ahead(60, 0, 0), 30);
        due("call 99", told(PAIR + "call 99;").ahead(60, 0, 0), 1);
        due("call 100", told(PAIR + "call 100;").ahead(60, 0, 0), 1);
    }

    @Says("AS IT GOES: without numbers:")
    static void promise15_ahead_nothingGoesByAndNoNumber() {
        String called = PAIR + "call 20;seed 5;piano 9;";
        HalfLandings x = told(called);
        HalfLandings y = told(called);
        for (int what = 0; what <= 3; what++) {
            x.ahead(200, what, 0);
        }
        x.meet(0, 1);
        x.pass(0, 1);
        x.out(0);
        x.best(0, 0, 0);
        x.paces(0);
        x.chance(9, 9, 9);
        x.tried(3, 0, 99);
        due("no minute", x.count(5), 0);
        due("nobody walks", x.walker(0, 0), 0);
        for (int minute = 1; minute <= 30; minute++) {
            x.go(1);
            y.go(1);
            due("the same in minute " + minute, x.walker(0, 0) * 1000 + x.walker(1, 0) * 100 + x.count(6),
                y.walker(0, 0) * 1000 + y.walker(1, 0) * 100 + y.count(6));
        }
    }

    // ---- promise 16

    @Says({"MEET;", "MEET of two WALKERS: in how many MINUTES as it goes, 199 at most (1: this one), they SIT at one BENCH in (3)."})
    static void promise16_meet_thisMinute() {
        HalfLandings x = told(PAIR);
        due("this one", x.meet(0, 1), 1);
        due("the other way round", x.meet(1, 0), 1);
        x.go(29);
        due("their last minute", x.meet(0, 1), 1);
        x.go(1);
        due("that they met counts not", x.meet(0, 1), -2);
        due("though they did", x.walker(0, 6), 2);
    }

    @Says({"199 at most (1: this one)", "-2: not by then;"})
    static void promise16_meet_199AtMost() {
        String rests = "rest u m 1;rest v m 1;";
        HalfLandings x = told(slow(26) + "bench m 13 2;" + rests);
        due("in 199", x.meet(0, 1), 199);
        x = told(slow(28) + "bench m 14 2;" + rests);
        due("in 200", x.meet(0, 1), -2);
        x.go(1);
        due("in 199 from minute 1 on", x.meet(1, 0), 199);
        x.go(198);
        due("in this one", x.meet(0, 1), 1);
        x.go(1);
        due("they met", x.walker(0, 6), 2);
    }

    @Says("-2: not by then;")
    static void promise16_meet_never() {
        due("one seat", told("bench b 1 1;walker a 0 0 1 0;walker d 0 0 1 0;rest a b 9;rest d b 9;").meet(0, 1), -2);
        due("two benches", told("bench b 1 1;bench c 2 1;walker a 0 0 1 0;walker d 0 0 2 0;rest a b 9;rest d c 9;").meet(0, 1), -2);
        due("one after the other", told("bench b 1 2;walker a 0 0 1 0;walker d 0 0 1 9;rest a b 9;rest d b 9;").meet(0, 1), -2);
        due("in his last minute", told("bench b 1 2;walker a 0 0 1 0;walker d 0 0 1 8;rest a b 9;rest d b 9;").meet(0, 1), 9);
        String later = "bench b 1 2;walker a 0 0 1 0;walker d 0 0 1 3;rest a b 9;rest d b 9;";
        due("call 49", told(later + "call 49;").meet(0, 1), 4);
        due("call 50", told(later + "call 50;").meet(0, 1), -2);
    }

    @Says("NONE: no such WALKERS, alike.")
    static void promise16_meet_noSuchWalkers() {
        HalfLandings x = told(PAIR);
        due("meet(0, 0)", x.meet(0, 0), NONE);
        due("meet(1, 1)", x.meet(1, 1), NONE);
        due("meet(0, 2)", x.meet(0, 2), NONE);
        due("meet(2, 0)", x.meet(2, 0), NONE);
        due("meet(-1, 0)", x.meet(-1, 0), NONE);
        due("meet(0, -1)", x.meet(0, -1), NONE);
        for (int far : FAR_OFF) {
            due("meet(" + far + ", 0)", x.meet(far, 0), NONE);
            due("meet(0, " + far + ")", x.meet(0, far), NONE);
        }
    }

    // ---- promise 17

    @Says({"PASS;", "PASS of two who are THERE or come: in how many MINUTES as it goes, 199 at most,",
        "it is so behind it the first time that both are THERE and the one who was below the other one, both THERE ahead of it, is above."})
    static void promise17_pass_whoWasBelowIsAbove() {
        // Behind the minutes: a 1 2 3 4 5 6, d waits on 8 until minute 3, then 7 6 5.
        HalfLandings x = told("walker a 0 0 1 0;walker d 8 1 1 3;");
        due("one who comes", x.pass(0, 1), 6);
        due("the other way round", x.pass(1, 0), 6);
        x.go(5);
        due("in this minute", x.pass(0, 1), 1);
        x.go(1);
        due("not again", x.pass(0, 1), -2);
        // Behind the minutes: a 5 and sits, d 3 6.
        due("one who sits is there", told("bench b 5 1;walker a 0 0 5 0;walker d 0 0 3 0;rest a b 30;").pass(0, 1), 2);
    }

    @Says("it is so behind it the first time that both are THERE and the one who was below the other one,")
    static void promise17_pass_theFirstTime() {
        // Behind the minutes: d 7 and sits, a 6 11, turns at the piano, 6, 1.
        HalfLandings x = told("bench b 7 1;walker a 1 0 5 0;walker d 6 0 1 0;rest d b 30;piano 12;");
        due("up", x.pass(0, 1), 2);
        x.go(2);
        due("and down", x.pass(0, 1), 2);
        x.go(2);
        due("not again", x.pass(0, 1), -2);
    }

    @Says("both THERE ahead of it, is above.")
    static void promise17_pass_onOneStepInBetween() {
        // Behind the minutes: a 1 2 3 4 5, d 5 4 3 2 1.
        HalfLandings x = told("walker a 0 0 1 0;walker d 6 1 1 0;");
        due("on 3 both", x.pass(0, 1), -2);
        x.go(3);
        due("from one step on", x.pass(0, 1), -2);
    }

    @Says({"both THERE ahead of it, is above.", "He is THERE, if he WALKS or SITS."})
    static void promise17_pass_notThere() {
        due("both wait ahead of it", told("walker a 4 0 3 0;walker d 5 1 1 0;").pass(0, 1), -2);
        due("one waits ahead of it", told("walker a 0 0 5 0;walker d 8 1 4 1;").pass(0, 1), -2);
        // Behind the minutes: a 7 and out at 10, d 9 8.
        due("one is out behind it", told("stair 10;walker a 4 0 3 0;walker d 10 1 1 0;").pass(0, 1), -2);
        HalfLandings x = told("stair 10;walker a 0 1 1 0;walker d 10 1 1 0;");
        x.go(1);
        due("one is out now", x.pass(0, 1), -2);
    }

    @Says({"199 at most,", "-2: not by then;"})
    static void promise17_pass_199AtMost() {
        due("in 199", told(slow(25)).pass(0, 1), 199);
        HalfLandings x = told(slow(27));
        due("in 200", x.pass(0, 1), -2);
        x.go(1);
        due("in 199 from minute 1 on", x.pass(1, 0), 199);
    }

    @Says("NONE: no such WALKERS, alike.")
    static void promise17_pass_noSuchWalkers() {
        HalfLandings x = told(PAIR);
        due("pass(0, 0)", x.pass(0, 0), NONE);
        due("pass(1, 1)", x.pass(1, 1), NONE);
        due("pass(0, 2)", x.pass(0, 2), NONE);
        due("pass(2, 0)", x.pass(2, 0), NONE);
        due("pass(-1, 0)", x.pass(-1, 0), NONE);
        due("pass(0, -1)", x.pass(0, -1), NONE);
        for (int far : FAR_OFF) {
            due("pass(" + far + ", 0)", x.pass(far, 0), NONE);
            due("pass(0, " + far + ")", x.pass(0, far), NONE);
        }
    }

    // ---- promise 18

    @Says({"OUT;", "OUT of a WALKER: in how many MINUTES as it goes, 199 at most, he is OUT (0: he is)."})
    static void promise18_out_nowAndSoon() {
        HalfLandings x = told("walker a 0 1 1 0;walker d 0 0 1 0;walker e 19 0 1 5;");
        due("in this minute", x.out(0), 1);
        due("in 20", x.out(1), 20);
        due("one who waits", x.out(2), 6);
        x.go(1);
        due("he is", x.out(0), 0);
        due("in 19", x.out(1), 19);
        due("call 49", told(ONE + "call 49;").out(0), 49);
        due("call 50", told(ONE + "call 50;").out(0), 20);
    }

    @Says({"199 at most, he is OUT", "-2: not by then;"})
    static void promise18_out_199AtMost() {
        due("in 199", told(slow(13)).out(0), 199);
        HalfLandings x = told(slow(14));
        due("in 200", x.out(0), -2);
        due("v in 200", x.out(1), -2);
        x.go(1);
        due("in 199 from minute 1 on", x.out(0), 199);
    }

    @Says("NONE: no such WALKER.")
    static void promise18_out_noSuchWalker() {
        HalfLandings x = told(PAIR);
        due("out(2)", x.out(2), NONE);
        due("out(-1)", x.out(-1), NONE);
        for (int far : FAR_OFF) {
            due("out(" + far + ")", x.out(far), NONE);
        }
        due("out(0) of none", new HalfLandings().out(0), NONE);
    }

    // ---- promise 19

    @Says({"BEST, what 0: MINUTES, 1: TALK.", "BEST of a WALKER at a BENCH: which rest of 0 .. 30 MINUTES more there (0: none),",
        "the first of several."})
    static void promise19_best_theFirstOfSeveral() {
        // a sits in the minutes 0 to 8, d comes in minute 2: from 7 on all rests have 7.
        HalfLandings x = told("bench b 1 2;walker a 0 0 1 0;walker d 0 0 1 2;rest a b 9;");
        due("7 minutes", x.best(1, 0, 0), 7);
        due("7 talk", x.best(1, 0, 1), 7);
        HalfLandings y = told("bench b 1 2;walker a 0 0 1 0;walker d 0 0 1 0;rest a b 1;");
        due("1 minute", y.best(1, 0, 0), 1);
        due("1 talk", y.best(1, 0, 1), 1);
        HalfLandings z = told("bench b 1 2;walker a 0 0 1 0;walker d 0 0 1 0;rest a b 9;law talk 0;");
        due("none, for all have 0", z.best(1, 0, 0), 0);
        due("0 talk", z.best(1, 0, 1), 0);
    }

    @Says("which rest of 0 .. 30 MINUTES more there (0: none),")
    static void promise19_best_noneAnd30() {
        HalfLandings x = told("bench b 1 2;walker a 0 0 1 0;walker d 0 0 1 0;rest a b 30;");
        due("30 minutes", x.best(1, 0, 0), 30);
        due("30 talk", x.best(1, 0, 1), 30);
        // d meets a at c only if he doesn't stay at b.
        String text = "bench b 1 1;bench c 2 2;walker a 0 0 2 0;walker d 0 0 2 0;rest a c 1;rest d c 1;";
        due("none is best", told(text).best(1, 0, 0), 0);
        due("its talk", told(text).best(1, 0, 1), 1);
        due("nobody else", told(ONE).best(0, 0, 0), 0);
        due("no talk", told(ONE).best(0, 0, 1), 0);
    }

    @Says("told behind all others now,")
    static void promise19_best_toldBehindAllOthers() {
        String text = "bench b 1 2;walker a 0 0 1 0;walker d 0 0 1 0;rest a b 30;";
        HalfLandings x = told(text + "rest d b 3;");
        due("d's own is taken first", x.best(1, 0, 0), 0);
        due("its talk", x.best(1, 0, 1), 3);
        due("it is told no more", x.count(2), 2);
        due("it isn't taken", x.count(10), 0);
        HalfLandings full = told("bench c 9 1;" + text + times("rest a c 1;", 11));
        due("twelve are told", full.count(2), 12);
        due("a thirteenth", full.best(1, 1, 0), 30);
        due("its talk", full.best(1, 1, 1), 30);
        due("twelve are told yet", full.count(2), 12);
        due("and none is left over", full.ahead(60, 0, 0), 0);
    }

    @Says("makes TALK in 60 MINUTES as it goes most,")
    static void promise19_best_in60Minutes() {
        String[] late = {"58", "59", "60"};
        int[] want = {2, 1, 0};
        for (int i = 0; i < 3; i++) {
            HalfLandings x = told("bench b 1 2;walker a 0 0 1 " + late[i] + ";walker d 0 0 1 " + late[i] + ";rest a b 30;");
            due("minutes, beginning at " + late[i], x.best(1, 0, 0), want[i]);
            due("talk, beginning at " + late[i], x.best(1, 0, 1), want[i]);
        }
        HalfLandings x = told("bench b 1 2;walker a 0 0 1 60;walker d 0 0 1 60;rest a b 30;");
        x.go(10);
        due("60 from now on", x.best(1, 0, 0), 10);
        String both = "bench b 1 2;walker a 0 0 1 0;walker d 0 0 1 0;rest a b 30;";
        due("call 49", told(both + "call 49;").best(1, 0, 0), 30);
        due("call 50", told(both + "call 50;").best(1, 0, 0), 1);
    }

    @Says("NONE: no such ones.")
    static void promise19_best_noSuchOnes() {
        HalfLandings x = told(PAIR);
        due("best(2, 0, 0)", x.best(2, 0, 0), NONE);
        due("best(-1, 0, 0)", x.best(-1, 0, 0), NONE);
        due("best(0, 1, 0)", x.best(0, 1, 0), NONE);
        due("best(0, -1, 0)", x.best(0, -1, 0), NONE);
        due("best(0, 0, 2)", x.best(0, 0, 2), NONE);
        due("best(0, 0, -1)", x.best(0, 0, -1), NONE);
        for (int far : FAR_OFF) {
            due("best(" + far + ", 0, 0)", x.best(far, 0, 0), NONE);
            due("best(0, " + far + ", 0)", x.best(0, far, 0), NONE);
            due("best(0, 0, " + far + ")", x.best(0, 0, far), NONE);
        }
    }

    // ---- promises 20 and 21

    @Says({"COVER (n 1 .. 60; bits);", "COVER of n: the fewest BENCHES (bits, of several the least)",
        "such that from 0 or such a BENCH to the next such BENCH or the TOP there are never more than n steps."})
    static void promise20_cover_neverMoreThanNSteps() {
        HalfLandings x = told("stair 60;bench a 20 1;bench b 40 1;");
        due("60 steps", x.cover(60), 0);
        due("59 steps", x.cover(59), 1);
        due("40 steps", x.cover(40), 1);
        due("39 steps", x.cover(39), 3);
        due("20 steps", x.cover(20), 3);
        due("19 steps", x.cover(19), -2);
        due("the way to the TOP counts", told("stair 10;bench a 3 1;").cover(6), -2);
        due("the way from 0 counts", told("stair 10;bench a 7 1;").cover(6), -2);
        due("7 from 0", told("stair 10;bench a 7 1;").cover(7), 1);
    }

    @Says("the fewest BENCHES (bits, of several the least)")
    static void promise20_cover_theFewestAndTheLeast() {
        HalfLandings x = told("stair 12;bench a 9 1;bench b 3 1;bench c 6 1;bench d 7 1;");
        due("11: any one, the least", x.cover(11), 1);
        due("8: b isn't, c or d", x.cover(8), 4);
        due("7: c or d", x.cover(7), 4);
        due("6: c", x.cover(6), 4);
        // Two of them: b (3) with d (7) or c (6) are no better than 5 and 6; b and d have 3, 4, 5.
        due("5: b and d", x.cover(5), 10);
        due("4: a, b and c or a, b and d", x.cover(4), 7);
        due("3: a, b, c", x.cover(3), 7);
        due("2: by none", x.cover(2), -2);
        due("all eight", told("stair 9;" + counted("bench @ # 1;", 8)).cover(1), 255);
    }

    @Says("-2: by none;")
    static void promise20_cover_byNone() {
        due("without benches", told("stair 2;").cover(1), -2);
        due("without benches, long enough", told("stair 2;").cover(2), 0);
        due("the only step", told("stair 2;bench a 1 1;").cover(1), 1);
        due("one is missing", told("stair 3;bench a 1 1;").cover(1), -2);
    }

    @Says("NONE: no such n.")
    static void promise20_cover_noSuchN() {
        HalfLandings x = told("stair 60;bench a 30 1;");
        due("cover(0)", x.cover(0), NONE);
        due("cover(1)", x.cover(1), -2);
        due("cover(60)", x.cover(60), 0);
        due("cover(61)", x.cover(61), NONE);
        due("cover(-1)", x.cover(-1), NONE);
        for (int far : FAR_OFF) {
            due("cover(" + far + ")", x.cover(far), NONE);
        }
    }

    @Says({"CARRY (0: it is there);", "the fewest PUSHES by which it is at the TOP less 1."})
    static void promise21_carry_fewestPushes() {
        int[] want = {3, 3, 2, 2, 2, 1, 1, 1, 0};
        for (int step = 1; step <= 9; step++) {
            due("from " + step, told("stair 10;piano " + step + ";").carry(), want[step - 1]);
        }
        due("the longest way", told("stair 60;piano 1;").carry(), 20);
        due("the shortest stair", told("stair 2;piano 1;").carry(), 0);
    }

    @Says({"-2: by none;", "over steps (the last one, too) from 1 to the TOP less 1 where nobody is who is THERE;"})
    static void promise21_carry_byNone() {
        HalfLandings x = told("stair 10;walker a 8 0 1 0;piano 3;");
        due("he waits on the way", x.carry(), 2);
        x.go(1);
        due("he is on the last one", x.carry(), -2);
        x.go(1);
        due("he is out at the TOP", x.carry(), 2);
        HalfLandings y = told("stair 10;bench b 4 1;walker a 5 1 1 0;rest a b 30;piano 3;");
        y.go(1);
        due("he sits right above it", y.carry(), -2);
        HalfLandings z = told("stair 10;walker a 3 1 1 0;piano 3;");
        z.go(1);
        due("he walks right below it", z.carry(), 2);
        HalfLandings w = told("stair 10;walker a 10 1 1 0;walker d 0 0 1 0;piano 9;");
        w.go(1);
        due("he is on the TOP and not out", w.walker(0, 0) * 100 + w.walker(0, 1), 110);
        due("it is there", w.carry(), 0);
        due("down", w.push(-2), 7);
        due("nobody is on the way", w.carry(), 1);
    }

    @Says("NONE: there is no piano.")
    static void promise21_carry_noPiano() {
        due("of a text", told("stair 10;").carry(), NONE);
        due("of a new object", new HalfLandings().carry(), NONE);
    }

    // ---- promises 22 to 24

    private static void game(int pace, int other, int... rests) {
        HalfLandings x = told("walker a 0 0 " + pace + " 0;walker d 0 0 " + other + " 0;");
        String paces = " of paces " + pace + ", " + other;
        due("rests" + paces, x.rests(0, 1), rests.length);
        for (int k = 0; k < rests.length; k++) {
            due("rest " + k + paces, x.rest(0, 1, k), rests[k]);
        }
        due("no more" + paces, x.rest(0, 1, rests.length), -2);
    }

    @Says({"How many RESTS the GAME has;", "GAME of two WALKERS: each goes on (0) or sits (1): both sit: each has the other one's PACE;",
        "one sits alone: it has 0, the other one its own PACE; both go on: each its own PACE by 2, cut.",
        "A REST of it: neither would have more otherwise."})
    static void promise22_rests_neitherWouldHaveMore() {
        game(3, 5, 0);
        game(5, 3, 0);
        game(3, 3, 0, 11);
        game(2, 2, 0, 11);
        game(9, 9, 0, 11);
        game(2, 9, 0);
    }

    @Says("both go on: each its own PACE by 2, cut.")
    static void promise22_rests_paceOneByTwoIsNothing() {
        // Of PACE 1 going on together has 0, as sitting alone has.
        game(1, 1, 0, 1, 10, 11);
        game(1, 9, 0, 10);
        game(9, 1, 0, 1);
        game(1, 2, 0, 10);
    }

    @Says("NONE: no such WALKERS, alike.")
    static void promise22_rests_noSuchWalkers() {
        HalfLandings x = told(PAIR);
        due("rests(0, 0)", x.rests(0, 0), NONE);
        due("rests(0, 2)", x.rests(0, 2), NONE);
        due("rests(2, 0)", x.rests(2, 0), NONE);
        due("rests(-1, 0)", x.rests(-1, 0), NONE);
        due("rests(0, -1)", x.rests(0, -1), NONE);
        for (int far : FAR_OFF) {
            due("rests(" + far + ", 0)", x.rests(far, 0), NONE);
            due("rests(0, " + far + ")", x.rests(0, far), NONE);
        }
    }

    @Says({"The k-th: ten times the first one's and the second one's;", "RESTS: by the first one's, then the second one's.",
        "-2: there are no so many;"})
    static void promise23_rest_theKth() {
        HalfLandings x = told("walker a 0 0 1 0;walker d 0 0 1 0;walker e 0 0 9 0;");
        int[] want = {0, 1, 10, 11};
        for (int k = 0; k < 4; k++) {
            due("rest(0, 1, " + k + ")", x.rest(0, 1, k), want[k]);
        }
        due("rest(0, 1, 4)", x.rest(0, 1, 4), -2);
        due("rest(0, 1, the greatest)", x.rest(0, 1, Integer.MAX_VALUE), -2);
        due("the first one sits", x.rest(0, 2, 1), 10);
        due("the second one sits", x.rest(2, 0, 1), 1);
        due("rest(0, 2, 2)", x.rest(0, 2, 2), -2);
    }

    @Says("NONE likewise, k is below 0.")
    static void promise23_rest_noneLikewise() {
        HalfLandings x = told(PAIR);
        due("rest(0, 1, -1)", x.rest(0, 1, -1), NONE);
        due("rest(0, 1, the least)", x.rest(0, 1, Integer.MIN_VALUE), NONE);
        due("rest(0, 0, 0)", x.rest(0, 0, 0), NONE);
        due("rest(0, 0, 9)", x.rest(0, 0, 9), NONE);
        due("rest(0, 2, 0)", x.rest(0, 2, 0), NONE);
        due("rest(2, 0, 9)", x.rest(2, 0, 9), NONE);
        due("rest(-1, 0, 0)", x.rest(-1, 0, 0), NONE);
        due("rest(0, -1, 0)", x.rest(0, -1, 0), NONE);
        for (int far : FAR_OFF) {
            due("rest(" + far + ", 0, 0)", x.rest(far, 0, 0), NONE);
            due("rest(0, " + far + ", 0)", x.rest(0, far, 0), NONE);
        }
    }

    private static void quiet(int call, int n, long above, long below) {
        HalfLandings x = told("call " + call + ";");
        due("above, call " + call + ", n " + n, x.quiet(n, 0), above);
        due("below, call " + call + ", n " + n, x.quiet(n, 1), below);
    }

    @Says({"QUIET (n 0 .. 6) in least terms, what 0: the number above, 1: the one below.",
        "QUIET for n MINUTES: how likely one who SITS isn't called in them, as a fraction."})
    static void promise24_quiet_inLeastTerms() {
        quiet(60, 1, 2, 5);
        quiet(60, 6, 64, 15625);
        quiet(25, 6, 729, 4096);
        quiet(50, 6, 1, 64);
        quiet(1, 6, 941480149401L, 1000000000000L);
        quiet(99, 6, 1, 1000000000000L);
        quiet(2, 1, 49, 50);
    }

    @Says("QUIET (n 0 .. 6) in least terms, what 0: the number above, 1: the one below.")
    static void promise24_quiet_sureOrNever() {
        quiet(0, 0, 1, 1);
        quiet(0, 6, 1, 1);
        quiet(100, 0, 1, 1);
        quiet(100, 1, 0, 1);
        quiet(100, 6, 0, 1);
        quiet(37, 0, 1, 1);
    }

    @Says("NONE: no such ones.")
    static void promise24_quiet_noSuchOnes() {
        HalfLandings x = told("call 10;");
        due("quiet(-1, 0)", x.quiet(-1, 0), NONE);
        due("quiet(7, 0)", x.quiet(7, 0), NONE);
        due("quiet(7, 1)", x.quiet(7, 1), NONE);
        due("quiet(1, -1)", x.quiet(1, -1), NONE);
        due("quiet(1, 2)", x.quiet(1, 2), NONE);
        for (int far : FAR_OFF) {
            due("quiet(" + far + ", 0)", x.quiet(far, 0), NONE);
            due("quiet(1, " + far + ")", x.quiet(1, far), NONE);
        }
    }
}
