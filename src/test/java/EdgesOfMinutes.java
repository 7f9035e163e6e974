/** Promises 6 to 14: who and what is where, laws, sitting, rising, pushing, and minutes that go by. */
final class EdgesOfMinutes extends Check {
    private static final int[] FAR_OFF = {Integer.MIN_VALUE, Integer.MIN_VALUE + 1, Integer.MAX_VALUE};
    // Two come to a bench in the first minute and sit there for 30.
    private static final String PAIR = "bench b 1 2;walker a 0 0 1 0;walker d 0 0 1 0;rest a b 30;rest d b 30;";
    private static final String ONE = "bench b 1 1;walker a 0 0 1 0;rest a b 30;";

    /** A walker's status, STEP (two digits) and whether DOWN. */
    private static int where(HalfLandings x, int walker) {
        return x.walker(walker, 0) * 1000 + x.walker(walker, 1) * 10 + x.walker(walker, 2);
    }

    private static HalfLandings behind(int minutes, String text) {
        HalfLandings x = told(text);
        due("go(" + minutes + ")", x.go(minutes), minutes);
        return x;
    }

    // ---- promise 6

    @Says({"Of a WALKER now, what 0 WAITS, WALKS, SITS, OUT (0 .. 3), 1 his STEP, 2 whether DOWN (1, 0), 3 PACE,",
        "A WALKER WAITS (0), WALKS (1), SITS (2) or is OUT (3)."})
    static void promise6_walker_waitsWalksSitsOut() {
        String text = "stair 9;bench b 2 1;walker a 9 1 9 2;walker d 0 0 1 0;walker e 0 0 2 0;walker f 0 1 5 0;rest e b 9;";
        HalfLandings x = behind(1, text);
        int[][] want = {{0, 9, 1, 9, 0, 0, 0}, {1, 1, 0, 1, 0, 0, 0}, {2, 2, 0, 2, 8, 1, 0}, {3, 0, 1, 5, 0, 0, 0}};
        for (int walker = 0; walker < 4; walker++) {
            for (int what = 0; what <= 6; what++) {
                due("walker(" + walker + ", " + what + ")", x.walker(walker, what), want[walker][what]);
            }
        }
    }

    @Says("4 for how many MINUTES he will SIT yet (0, if he doesn't),")
    static void promise6_walker_minutesLeft() {
        HalfLandings x = told(ONE);
        due("waits", x.walker(0, 4), 0);
        x.go(1);
        due("29 are left", x.walker(0, 4), 29);
        x.go(28);
        due("one is left", x.walker(0, 4), 1);
        x.go(1);
        due("none is left", x.walker(0, 4), 0);
        due("he walks", x.walker(0, 0), 1);
        x.sit(0, 30);
        due("30 by call", x.walker(0, 4), 30);
        x.rise(0);
        due("risen", x.walker(0, 4), 0);
        x.go(19);
        due("out", x.walker(0, 0) * 100 + x.walker(0, 4), 300);
    }

    @Says("5 how many he SAT so far,")
    static void promise6_walker_satSoFar() {
        HalfLandings x = told(ONE);
        x.go(3);
        due("three", x.walker(0, 5), 3);
        x.rise(0);
        x.sit(0, 2);
        due("sitting down is no minute", x.walker(0, 5), 3);
        x.go(2);
        due("two more", x.walker(0, 5), 5);
        x.go(30);
        due("out, and five yet", x.walker(0, 0) * 100 + x.walker(0, 5), 305);
    }

    @Says("6 WALKERS (bits) whom he MET.")
    static void promise6_walker_whomHeMet() {
        HalfLandings x = behind(1, "bench b 1 3;" + counted("walker @ 0 0 1 0;", 6) + "rest a b 9;rest f b 9;rest c b 9;");
        due("a met c, f", x.walker(0, 6), 4 + 32);
        due("c met a, f", x.walker(2, 6), 1 + 32);
        due("f met a, c", x.walker(5, 6), 1 + 4);
        due("b met nobody", x.walker(1, 6), 0);
        x.go(30);
        due("out, and met yet", x.walker(0, 0) * 100 + x.walker(0, 6), 336);
    }

    @Says("IndexOutOfBoundsException: no such WALKER.")
    static void promise6_walker_noSuchWalker() {
        HalfLandings none = new HalfLandings();
        due("walker(0, 0) of none", thrown(none, 0, 0), 1);
        HalfLandings x = told(PAIR);
        due("walker(1, 0)", thrown(x, 1, 0), 0);
        due("walker(2, 0)", thrown(x, 2, 0), 1);
        due("walker(-1, 0)", thrown(x, -1, 0), 1);
        due("walker(2, 7)", thrown(x, 2, 7), 1);
        for (int far : FAR_OFF) {
            due("walker(" + far + ", 0)", thrown(x, far, 0), 1);
        }
        HalfLandings six = told(counted("walker @ 0 0 1 0;", 6));
        due("walker(5, 0)", thrown(six, 5, 0), 0);
        due("walker(6, 0)", thrown(six, 6, 0), 1);
    }

    @Says("NoSuchElementException: no such what.")
    static void promise6_walker_noSuchWhat() {
        HalfLandings x = told(PAIR);
        due("walker(0, 6)", thrown(x, 0, 6), 0);
        due("walker(0, 7)", thrown(x, 0, 7), 2);
        due("walker(0, -1)", thrown(x, 0, -1), 2);
        for (int far : FAR_OFF) {
            due("walker(0, " + far + ")", thrown(x, 0, far), 2);
        }
    }

    // ---- promises 7 to 9

    @Says({"Of a BENCH now, what 0 STEP, 1 SEATS, 2 how much WORN, 3 WALKERS (bits) who SIT there, 4 FREE.",
        "FREE: SEATS of a BENCH that nobody has."})
    static void promise7_bench_emptyAndFull() {
        HalfLandings x = told("bench c 3 3;" + PAIR);
        int[] empty = {1, 2, 0, 0, 2};
        for (int what = 0; what <= 4; what++) {
            due("empty, what " + what, x.bench(1, what), empty[what]);
        }
        x.go(1);
        int[] full = {1, 2, 2, 3, 0};
        for (int what = 0; what <= 4; what++) {
            due("full, what " + what, x.bench(1, what), full[what]);
        }
        due("the other is FREE", x.bench(0, 4), 3);
        x.rise(0);
        due("one seat is FREE", x.bench(1, 4), 1);
        due("who sits", x.bench(1, 3), 2);
    }

    @Says("NONE: no such ones.")
    static void promise7_bench_noSuchOnes() {
        due("bench(0, 0) of none", new HalfLandings().bench(0, 0), NONE);
        HalfLandings x = told(counted("bench @ # 1;", 8));
        due("bench(7, 0)", x.bench(7, 0), 8);
        due("bench(8, 0)", x.bench(8, 0), NONE);
        due("bench(-1, 0)", x.bench(-1, 0), NONE);
        due("bench(0, 5)", x.bench(0, 5), NONE);
        due("bench(0, -1)", x.bench(0, -1), NONE);
        for (int far : FAR_OFF) {
            due("bench(" + far + ", 0)", x.bench(far, 0), NONE);
            due("bench(0, " + far + ")", x.bench(0, far), NONE);
        }
    }

    @Says("Of a REST, what 0 WALKER, 1 BENCH, 2 MINUTES, 3 whether taken (1, 0).")
    static void promise8_restOf_takenOrNot() {
        HalfLandings x = told("bench c 3 3;" + PAIR);
        int[] want = {1, 1, 30, 0};
        for (int what = 0; what <= 3; what++) {
            due("restOf(1, " + what + ")", x.restOf(1, what), want[what]);
        }
        x.go(1);
        due("taken", x.restOf(1, 3), 1);
        x.rise(1);
        due("taken, though he rose", x.restOf(1, 3), 1);
    }

    @Says("NONE: no such ones.")
    static void promise8_restOf_noSuchOnes() {
        due("restOf(0, 0) of none", new HalfLandings().restOf(0, 0), NONE);
        HalfLandings x = told("bench b 1 1;walker w 0 0 1 0;" + counted("rest w b #;", 12));
        due("restOf(11, 2)", x.restOf(11, 2), 12);
        due("restOf(12, 2)", x.restOf(12, 2), NONE);
        due("restOf(-1, 2)", x.restOf(-1, 2), NONE);
        due("restOf(0, 4)", x.restOf(0, 4), NONE);
        due("restOf(0, -1)", x.restOf(0, -1), NONE);
        for (int far : FAR_OFF) {
            due("restOf(" + far + ", 0)", x.restOf(far, 0), NONE);
            due("restOf(0, " + far + ")", x.restOf(0, far), NONE);
        }
        x.best(0, 0, 0);
        due("best tells no thirteenth", x.restOf(12, 2), NONE);
    }

    @Says("Where the piano is; -2: there is none.")
    static void promise9_piano_whereOrNone() {
        due("none", told("stair 60;").piano(), -2);
        HalfLandings x = told("stair 60;piano 59;");
        due("at 59", x.piano(), 59);
        x.push(-3);
        due("at 56", x.piano(), 56);
        x.undo();
        due("at 59 again", x.piano(), 59);
        x.text(0);
        due("none again", x.piano(), -2);
    }

    // ---- promise 10

    private static void value(String e, long want) {
        HalfLandings x = told("bench b 5 1;walker w 0 0 4 0;law talk " + e + ";");
        due("law of " + e, x.law(1, 0, 0), want);
    }

    @Says({"The law's E now of a WALKER as if at a BENCH's STEP (what 0 sits, 1 talk, 2 wear).",
        "NAMES, of the WALKER (of talk the first one): pace: PACE; up: 1, if he goes UP, else 0; step: his STEP;",
        "worn: how much the BENCH there is WORN; full: how many SIT there;",
        "sat: how many MINUTES he SAT so far; minute: the MINUTE."})
    static void promise10_law_namesAsIfThere() {
        HalfLandings x = told("bench c 7 1;" + PAIR + "walker u 20 1 9 99;law sits step*10+up;law talk worn*100+full*10+sat;"
            + "law wear pace*100+minute;");
        due("sits: u at c", x.law(0, 2, 0), 70);
        due("sits: a at b", x.law(0, 0, 1), 11);
        due("talk: nothing yet", x.law(1, 0, 1), 0);
        due("wear: u in minute 0", x.law(2, 2, 1), 900);
        // E of wear is 100 and more: 99 from each of the two.
        x.go(3);
        due("talk: a at b", x.law(1, 0, 1), 59400 + 20 + 3);
        due("talk: u at b", x.law(1, 2, 1), 59400 + 20);
        due("talk: a at c", x.law(1, 0, 0), 3);
        due("wear: a in minute 3", x.law(2, 0, 0), 103);
        x.rise(0);
        due("talk: one sits at b", x.law(1, 2, 1), 59400 + 10);
    }

    @Says("Long.MIN_VALUE: an ERROR, no such law, no such ones.")
    static void promise10_law_noSuchOnes() {
        HalfLandings x = told(PAIR + "law sits 1;law wear 3;");
        due("law(0, 1, 0)", x.law(0, 1, 0), 1);
        due("law(2, 0, 0)", x.law(2, 0, 0), 3);
        due("a law that isn't told", x.law(1, 0, 0), ERROR);
        due("law(3, 0, 0)", x.law(3, 0, 0), ERROR);
        due("law(-1, 0, 0)", x.law(-1, 0, 0), ERROR);
        due("law(0, 2, 0)", x.law(0, 2, 0), ERROR);
        due("law(0, -1, 0)", x.law(0, -1, 0), ERROR);
        due("law(0, 0, 1)", x.law(0, 0, 1), ERROR);
        due("law(0, 0, -1)", x.law(0, 0, -1), ERROR);
        for (int far : FAR_OFF) {
            due("law(" + far + ", 0, 0)", x.law(far, 0, 0), ERROR);
            due("law(0, " + far + ", 0)", x.law(0, far, 0), ERROR);
            due("law(0, 0, " + far + ")", x.law(0, 0, far), ERROR);
        }
        due("law(0, 0, 0) of none", new HalfLandings().law(0, 0, 0), ERROR);
    }

    @Says("ERROR: / by 0, a value above 10 to the 12 or below 0 by more than that.")
    static void promise10_law_divisionBy0() {
        value("1/0", ERROR);
        value("0/0", ERROR);
        value("1/(2-2)", ERROR);
        value("1/sat", ERROR);
        value("0/5", 0);
        value("1/0*0", ERROR);
        value("1/0=1/0", ERROR);
        value("not 1/0", ERROR);
    }

    @Says("ERROR: / by 0, a value above 10 to the 12 or below 0 by more than that.")
    static void promise10_law_tenToThe12() {
        String most = "1000*1000*1000*1000";
        value(most, 1000000000000L);
        value("0-" + most, -1000000000000L);
        value(most + "+1", ERROR);
        value("0-" + most + "-1", ERROR);
        value(most + "+1-1", ERROR);
        value(most + "-1+1", 1000000000000L);
        value("1+" + most, ERROR);
        value("(" + most + "+1)*0", ERROR);
        value(most + "+1<0", ERROR);
        value("0 and " + most + "+1", ERROR);
    }

    @Says({"VALUES are longs;", "ERROR: / by 0, a value above 10 to the 12 or below 0 by more than that."})
    static void promise10_law_productsBeyondALong() {
        String most = "1000*1000*1000*1000";
        value("(" + most + ")*(" + most + ")", ERROR);
        value("(" + most + ")*(0-" + most + ")", ERROR);
        // 2 to the 32 times itself is 0 in a long, if it is not looked at ahead.
        value("(4096*1024*1024)*(4096*1024*1024)", ERROR);
        value("(4096*1024*1024)*(4096*1024*1024*1)", ERROR);
        value("(0-4096*1024*1024)*(4096*1024*1024)", ERROR);
        value("9999*9999*9999", 999700029999L);
        value("9999*9999*9999*2", ERROR);
        value("(0-1)*(" + most + ")", -1000000000000L);
        value("(" + most + ")/(0-1)", -1000000000000L);
        value("(" + most + ")*0", 0);
        value("0*(" + most + ")", 0);
    }

    @Says({"comparisons, and, or, not are 1 or 0 (what isn't 0 is as 1, both sides are worked out),", "/ is cut towards 0;"})
    static void promise10_law_oneOrZero() {
        value("5 and 7", 1);
        value("5 or 0", 1);
        value("(0-5) and (0-1)", 1);
        value("0 or 0-1", 1);
        value("not (0-1)", 0);
        value("not 9999", 0);
        value("not 0", 1);
        value("0 and 1/0", ERROR);
        value("1 or 1/0", ERROR);
        value("1/0 or 1", ERROR);
        value("7/2", 3);
        value("(0-7)/2", -3);
        value("7/(0-2)", -3);
        value("(0-7)/(0-2)", 3);
        value("1/2", 0);
        value("(0-1)/2", 0);
        value("(0-1)<0", 1);
    }

    @Says("comparisons, and, or, not are 1 or 0")
    static void promise10_law_lessAlikeMore() {
        String[] signs = {"<", "<=", "=", "<>", ">=", ">", " and ", " or "};
        // Of 0 and 1, 1 and 1, 1 and 0, 0 and 0.
        String[] want = {"1000", "1101", "0101", "1010", "0111", "0010", "0100", "1110"};
        String[] left = {"0", "1", "1", "0"};
        String[] right = {"1", "1", "0", "0"};
        for (int sign = 0; sign < signs.length; sign++) {
            for (int i = 0; i < 4; i++) {
                value(left[i] + signs[sign] + right[i], want[sign].charAt(i) - '0');
            }
        }
        value("5<>7", 1);
        value("7>5", 1);
    }

    @Says({"E: A { or A }. A: B { and B }. B: not B | C.", "S: T { ( + | - ) T }. T: P { ( * | / ) P }."})
    static void promise10_law_whatGoesFirst() {
        value("1 or 0 and 0", 1);
        value("(1 or 0) and 0", 0);
        value("0 and (0 or 1) or 1", 1);
        value("not 0 or 1", 1);
        value("not 1 and 0", 0);
        value("not 1=2", 1);
        value("not 0+5", 0);
        value("2+3*4", 14);
        value("20-5-5", 10);
        value("20/5/2", 2);
        value("20/5*2", 8);
        value("2*3<3+4", 1);
        value("2-(3-4)", 3);
        value(times("(", 8) + "7" + times(")", 8), 7);
    }

    // ---- promises 11 to 13

    @Says({"A WALKER who WALKS and is on the STEP of a BENCH SITS there for so many MINUTES 1 .. 30: how many SIT there then;",
        "FREE: SEATS of a BENCH that nobody has."})
    static void promise11_sit_seatsAndMinutes() {
        HalfLandings x = behind(1, "bench b 1 3;" + counted("walker @ 0 0 1 0;", 6));
        due("sit(0, 1)", x.sit(0, 1), 1);
        due("sit(5, 30)", x.sit(5, 30), 2);
        due("sit(1, 2)", x.sit(1, 2), 3);
        due("minutes", x.walker(0, 4) * 100 + x.walker(5, 4), 130);
        x.go(1);
        due("one minute is over", x.walker(0, 0) * 100 + x.walker(5, 4), 129);
    }

    @Says("-2: no SEAT is FREE there, no BENCH is there, he doesn't WALK;")
    static void promise11_sit_noSeatIsFree() {
        HalfLandings x = behind(1, "bench b 1 1;walker a 0 0 1 0;walker d 0 0 1 0;");
        due("sit(0, 5)", x.sit(0, 5), 1);
        due("sit(1, 5)", x.sit(1, 5), -2);
        due("he walks", x.walker(1, 0), 1);
        due("nothing more to undo", x.count(13), 1);
        x.rise(0);
        due("the seat is FREE", x.sit(1, 5), 1);
        due("sit(0, 5)", x.sit(0, 5), -2);
    }

    @Says("-2: no SEAT is FREE there, no BENCH is there, he doesn't WALK;")
    static void promise11_sit_noBenchIsThere() {
        HalfLandings x = behind(1, "bench b 2 1;walker a 0 0 1 0;walker d 2 0 1 0;");
        due("one step below", x.sit(0, 5), -2);
        due("one step above", x.sit(1, 5), -2);
        due("no bench at all", behind(1, "walker a 0 0 1 0;").sit(0, 5), -2);
    }

    @Says("-2: no SEAT is FREE there, no BENCH is there, he doesn't WALK;")
    static void promise11_sit_heDoesNotWalk() {
        HalfLandings x = told("stair 2;bench b 1 3;walker w 1 0 1 9;walker s 0 0 1 0;walker o 1 0 1 0;rest s b 9;");
        due("he waits on the bench's step", x.sit(0, 5), -2);
        x.go(1);
        due("he sits", x.sit(1, 5), -2);
        due("he has his own minutes", x.walker(1, 4), 8);
        due("he is out", x.sit(2, 5), -2);
    }

    @Says("NONE: no such ones.")
    static void promise11_sit_noSuchOnes() {
        HalfLandings x = behind(1, "bench b 1 1;walker a 0 0 1 0;");
        due("sit(0, 0)", x.sit(0, 0), NONE);
        due("sit(0, 31)", x.sit(0, 31), NONE);
        due("sit(0, -1)", x.sit(0, -1), NONE);
        due("sit(1, 5)", x.sit(1, 5), NONE);
        due("sit(-1, 5)", x.sit(-1, 5), NONE);
        for (int far : FAR_OFF) {
            due("sit(" + far + ", 5)", x.sit(far, 5), NONE);
            due("sit(0, " + far + ")", x.sit(0, far), NONE);
        }
        due("he walks yet", x.walker(0, 0), 1);
        due("nothing to undo", x.undo(), NONE);
        due("sit(0, 0) of none", new HalfLandings().sit(0, 5), NONE);
    }

    @Says("A WALKER who SITS WALKS again: true;")
    static void promise12_rise_whoSits() {
        HalfLandings x = behind(1, PAIR);
        due("rise(1)", x.rise(1), true);
        due("he walks at his step", where(x, 1), 1010);
        due("the other sits", where(x, 0), 2010);
        x.go(1);
        due("he goes on", where(x, 1), 1020);
    }

    @Says("false: no such one, he doesn't SIT.")
    static void promise12_rise_noSuchOne() {
        HalfLandings x = told("stair 5;bench b 4 1;walker a 0 0 1 0;walker d 0 1 1 0;walker e 0 0 1 9;");
        x.go(1);
        due("he walks", x.rise(0), false);
        due("he is out", x.rise(1), false);
        due("he waits", x.rise(2), false);
        due("rise(3)", x.rise(3), false);
        due("rise(-1)", x.rise(-1), false);
        for (int far : FAR_OFF) {
            due("rise(" + far + ")", x.rise(far), false);
        }
        due("nothing to undo", x.undo(), NONE);
        due("rise(0) of none", new HalfLandings().rise(0), false);
    }

    @Says({"A PUSH of the piano by -3 .. 3 steps (not 0): where it is;", "CARRY: a PUSH brings the piano 1, 2 or 3 steps up or down,"})
    static void promise13_push_oneToThreeSteps() {
        HalfLandings x = told("piano 10;");
        due("push(3)", x.push(3), 13);
        due("push(-3)", x.push(-3), 10);
        due("push(1)", x.push(1), 11);
        due("push(-1)", x.push(-1), 10);
        due("push(2)", x.push(2), 12);
        due("push(-2)", x.push(-2), 10);
        due("piano()", x.piano(), 10);
    }

    @Says({"NONE: no such number, there is none.", "by -3 .. 3 steps (not 0)"})
    static void promise13_push_noSuchNumber() {
        HalfLandings x = told("piano 10;");
        due("push(0)", x.push(0), NONE);
        due("push(4)", x.push(4), NONE);
        due("push(-4)", x.push(-4), NONE);
        for (int far : FAR_OFF) {
            due("push(" + far + ")", x.push(far), NONE);
        }
        due("it stays", x.piano(), 10);
        due("nothing to undo", x.undo(), NONE);
        for (int steps = -4; steps <= 4; steps++) {
            due("push(" + steps + ") of none", new HalfLandings().push(steps), NONE);
        }
    }

    @Says({"-2: it can't be;", "over steps (the last one, too) from 1 to the TOP less 1 where nobody is who is THERE;"})
    static void promise13_push_theEndsOfTheStair() {
        HalfLandings x = told("stair 4;piano 2;");
        due("to the TOP", x.push(2), -2);
        due("beyond the TOP", x.push(3), -2);
        due("to 0", x.push(-2), -2);
        due("below 0", x.push(-3), -2);
        due("it stays", x.piano(), 2);
        due("nothing to undo", x.count(13), 0);
        due("to the TOP less 1", x.push(1), 3);
        due("to 1", x.push(-2), 1);
        due("no way on the shortest stair", told("stair 2;piano 1;").push(1), -2);
        due("nor down", told("stair 2;piano 1;").push(-1), -2);
    }

    @Says({"-2: it can't be;", "over steps (the last one, too) from 1 to the TOP less 1 where nobody is who is THERE;",
        "He is THERE, if he WALKS or SITS."})
    static void promise13_push_whereSomebodyIs() {
        // Behind the first minute one walks on 12, one sits on 8, one waits on 11, one is out on 0.
        HalfLandings x = behind(1, "bench b 8 1;walker a 11 0 1 0;walker s 7 0 1 0;walker w 11 0 1 50;walker o 1 1 1 0;rest s b 9;piano 10;");
        due("onto one who walks", x.push(2), -2);
        due("over one who walks", x.push(3), -2);
        due("onto one who sits", x.push(-2), -2);
        due("over one who sits", x.push(-3), -2);
        due("onto one who waits", x.push(1), 11);
        due("back", x.push(-1), 10);
        due("beside one who sits", x.push(-1), 9);
        HalfLandings y = behind(1, "walker o 1 1 1 0;walker t 19 0 1 0;piano 2;");
        due("out at 0", where(y, 0), 3001);
        due("out at the top", where(y, 1), 3200);
        due("to 1", y.push(-1), 1);
        // Six walkers, of whom the last one is in the way.
        HalfLandings z = behind(1, "walker a 0 0 1 50;walker b 0 0 1 50;walker c 0 0 1 50;walker d 0 0 1 50;walker e 0 0 1 50;walker f 11 0 1 0;piano 10;");
        due("onto the sixth", z.push(2), -2);
        due("below the sixth", z.push(1), 11);
        z.go(1);
        due("the sixth went on", z.push(1), 12);
    }

    // ---- promise 14: a minute's parts

    @Says({"So many MINUTES (0 .. 200) go by: which one it is;", "Then it is the next MINUTE."})
    static void promise14_go_0To200() {
        HalfLandings x = told(ONE);
        due("go(0)", x.go(0), 0);
        due("he waits", x.walker(0, 0), 0);
        due("go(1)", x.go(1), 1);
        due("go(200)", x.go(200), 201);
        due("go(0)", x.go(0), 201);
        due("one by one is as many at once", behind(7, PAIR).count(6), 7);
        HalfLandings y = told(PAIR);
        for (int i = 1; i <= 7; i++) {
            due("go(1)", y.go(1), i);
        }
        due("talk", y.count(6), 7);
    }

    @Says("NONE, and none does: no such number, behind 9800.")
    static void promise14_go_noSuchNumber() {
        HalfLandings x = told(ONE);
        due("go(-1)", x.go(-1), NONE);
        due("go(201)", x.go(201), NONE);
        for (int far : FAR_OFF) {
            due("go(" + far + ")", x.go(far), NONE);
        }
        due("no minute went by", x.count(5), 0);
        due("he waits", x.walker(0, 0), 0);
    }

    @Says("NONE, and none does: no such number, behind 9800.")
    static void promise14_go_behind9800() {
        HalfLandings x = told(ONE);
        for (int i = 1; i <= 48; i++) {
            due("go(200)", x.go(200), 200 * i);
        }
        due("go(199)", x.go(199), 9799);
        due("go(2)", x.go(2), NONE);
        due("go(200)", x.go(200), NONE);
        due("none went by", x.count(5), 9799);
        due("go(1)", x.go(1), 9800);
        due("go(1) again", x.go(1), NONE);
        due("go(0)", x.go(0), 9800);
        due("it is 9800", x.count(5), 9800);
    }

    @Says({"A MINUTE: (1) by numbers each WALKER who WAITS and begins at this MINUTE WALKS.", "a MINUTE 0 .. 99 at which he begins."})
    static void promise14_go_whenOneBegins() {
        HalfLandings x = told("walker a 5 0 1 0;walker d 5 0 1 1;walker e 5 0 1 99;");
        x.go(1);
        due("a walks", where(x, 0), 1060);
        due("d waits", where(x, 1), 50);
        x.go(1);
        due("d walks", where(x, 1), 1060);
        x.go(97);
        due("e waits in minute 99", where(x, 2), 50);
        x.go(1);
        due("e walks behind it", where(x, 2), 1060);
    }

    @Says("(2) by numbers each who WALKS takes one step behind another UP or DOWN, as many as his PACE:")
    static void promise14_go_asManyAsHisPace() {
        HalfLandings x = behind(1, "stair 60;walker a 30 0 1 0;walker d 30 0 9 0;walker e 30 1 1 0;walker f 30 1 9 0;");
        due("one up", where(x, 0), 1310);
        due("nine up", where(x, 1), 1390);
        due("one down", where(x, 2), 1291);
        due("nine down", where(x, 3), 1211);
    }

    @Says("if the piano is on the next one, he turns round and goes no further in this MINUTE;")
    static void promise14_go_turnsAtThePiano() {
        HalfLandings x = behind(1, "walker a 4 0 9 0;walker d 2 0 9 0;walker e 6 1 9 0;walker f 8 1 9 0;walker g 5 0 1 0;piano 5;");
        due("right below it", where(x, 0), 1041);
        due("further below", where(x, 1), 1041);
        due("right above it", where(x, 2), 1060);
        due("further above", where(x, 3), 1060);
        due("from its own step", where(x, 4), 1060);
        x.go(1);
        due("down and out", where(x, 0), 3001);
        due("up again", where(x, 2), 1150);
        HalfLandings y = behind(1, "walker a 0 0 3 0;piano 1;");
        due("at 0, and not out", where(y, 0), 1001);
        y.go(1);
        due("no next one", where(y, 0), 3001);
    }

    @Says("if the piano is on the next one, he turns round and goes no further in this MINUTE;")
    static void promise14_go_reachesTheStepBesideThePiano() {
        // With the last of his steps he comes beside the piano; he turns only in the next minute.
        HalfLandings x = behind(1, "walker a 2 0 2 0;piano 5;");
        due("beside it", where(x, 0), 1040);
        x.go(1);
        due("turned", where(x, 0), 1041);
    }

    @Says("if there is no next one, he is OUT;")
    static void promise14_go_noNextOne() {
        HalfLandings x = behind(1, "walker a 0 1 1 0;walker d 20 0 9 0;");
        due("below 0", where(x, 0), 3001);
        due("above the TOP", where(x, 1), 3200);
        HalfLandings y = behind(1, "stair 60;walker d 60 0 9 0;");
        due("above 60", where(y, 0), 3600);
        y.go(5);
        due("he stays out", where(y, 0), 3600);
    }

    @Says("else he is on it: if that is 0 or the TOP, he is OUT;")
    static void promise14_go_zeroOrTheTop() {
        HalfLandings x = behind(1, "stair 9;walker a 1 1 9 0;walker d 8 0 9 0;walker e 0 0 9 0;walker f 9 1 8 0;walker g 9 1 9 0;");
        due("to 0 and no further", where(x, 0), 3001);
        due("to the TOP and no further", where(x, 1), 3090);
        due("to the TOP with the last step", where(x, 2), 3090);
        due("one step short of 0", where(x, 3), 1011);
        due("to 0 with the last step", where(x, 4), 3001);
        HalfLandings y = behind(1, "stair 2;walker a 0 0 1 0;walker d 2 1 1 0;");
        due("1 is the shortest stair's only step", where(y, 0) * 10000L + where(y, 1), 10101011L);
    }

    @Says("if there is a BENCH with a SEAT that nobody has,")
    static void promise14_go_aSeatThatNobodyHas() {
        HalfLandings x = behind(1, "bench b 2 2;walker a 0 0 3 0;walker d 0 0 3 0;walker e 0 0 3 0;rest a b 9;rest d b 9;rest e b 9;");
        due("the first sits", where(x, 0), 2020);
        due("the second sits", where(x, 1), 2020);
        due("the third goes on", where(x, 2), 1030);
        due("his rest isn't taken", x.restOf(2, 3), 0);
        HalfLandings y = behind(1, "bench b 2 1;walker a 2 0 1 0;rest a b 9;");
        due("his own first step counts not", where(y, 0), 1030);
    }

    @Says("and a REST of him there that wasn't taken yet (the first one is taken)")
    static void promise14_go_theFirstRestIsTaken() {
        String text = "bench b 1 1;bench c 2 1;walker a 0 0 1 0;walker d 0 0 1 50;piano 3;rest d b 9;rest a c 1;rest a b 4;rest a b 6;";
        HalfLandings x = behind(1, text);
        due("his first one there", x.walker(0, 4), 3);
        due("taken", x.restOf(0, 3) * 1000 + x.restOf(1, 3) * 100 + x.restOf(2, 3) * 10 + x.restOf(3, 3), 10);
        // Up in minute 4, one minute at c, turned at the piano, and at b again.
        x.go(3);
        due("he walks", where(x, 0), 1010);
        x.go(1);
        due("at c", where(x, 0), 1020);
        x.go(1);
        due("turned", where(x, 0), 1021);
        x.go(1);
        due("his second one at b", x.walker(0, 4), 5);
        due("all of his are taken", x.count(10), 3);
    }

    @Says("or else E of sits isn't 0 (0 without, with an ERROR), he SITS there for its MINUTES (1 by E of sits) and goes no further.")
    static void promise14_go_sitsByTheLaw() {
        String stair = "bench b 1 1;bench c 2 1;walker a 0 0 9 0;";
        due("without a law", where(behind(1, stair), 0), 1090);
        due("0", where(behind(1, stair + "law sits 0;"), 0), 1090);
        due("an ERROR", where(behind(1, stair + "law sits 1/0;"), 0), 1090);
        HalfLandings x = behind(1, stair + "law sits 0-1;");
        due("below 0 isn't 0", where(x, 0), 1010);
        due("one minute", x.walker(0, 5), 1);
        x.go(1);
        due("one minute at c", where(x, 0) * 10 + x.walker(0, 5), 10202);
        due("one step by the law", where(behind(1, stair + "law sits step=2;"), 0), 1020);
        HalfLandings y = behind(1, stair + "law sits 1;rest a b 5;");
        due("a rest goes first", y.walker(0, 4), 4);
        due("its minutes", where(y, 0), 2010);
    }

    @Says({"or else E of sits isn't 0", "full: how many SIT there;", "minute: the MINUTE."})
    static void promise14_go_namesOfTheLawOfSitting() {
        HalfLandings x = behind(1, "bench b 1 3;walker a 0 0 1 0;walker d 0 0 1 0;walker e 0 0 1 0;law sits full<2;");
        due("full ahead of sitting down", x.count(9), 2);
        due("the third sat not", x.walker(2, 5), 0);
        HalfLandings y = told("bench b 1 1;walker a 0 0 1 0;walker d 0 0 1 1;walker e 0 0 1 2;law sits minute=1;");
        y.go(3);
        due("only the one of minute 1", y.walker(0, 5) * 100 + y.walker(1, 5) * 10 + y.walker(2, 5), 10);
    }

    @Says("(3) by BENCHES each pair of those who SIT there, by the first one's number, then the other one's:")
    static void promise14_go_eachPair() {
        String three = "bench b 1 3;bench c 2 1;" + counted("walker @ 0 0 2 0;", 4) + "rest a b 9;rest b b 9;rest c b 9;rest d c 9;";
        HalfLandings x = behind(1, three);
        due("three pairs of three", x.count(6), 3);
        due("one alone met nobody", x.walker(3, 6), 0);
        due("no pair of one", behind(1, ONE).count(6), 0);
        // The first ones of the pairs are a, a and b.
        HalfLandings y = behind(1, "bench b 1 3;walker a 0 0 1 0;walker d 0 0 2 0;walker e 0 0 9 0;rest a b 9;rest d b 9;rest e b 9;law talk pace;");
        due("of talk the first one", y.count(6), 1 + 1 + 2);
    }

    private static int talk(String law) {
        return behind(1, PAIR + law).count(6);
    }

    @Says("TALK is more by E of talk (0 .. 99; 1 without, with an ERROR),")
    static void promise14_go_talkOf0To99() {
        due("without", talk(""), 1);
        due("an ERROR", talk("law talk 1/0;"), 1);
        due("0", talk("law talk 0;"), 0);
        due("99", talk("law talk 99;"), 99);
        due("100", talk("law talk 100;"), 99);
        due("10 to the 12", talk("law talk 1000*1000*1000*1000;"), 99);
        due("below 0", talk("law talk 0-1;"), 0);
        due("far below 0", talk("law talk 0-1000*1000*1000*1000;"), 0);
    }

    @Says({"99999 at most;", "they MET."})
    static void promise14_go_talk99999AtMost() {
        HalfLandings x = told("bench b 1 3;" + counted("walker @ 0 0 1 0;", 3) + counted("rest @ b 30;", 3) + "law talk 99;");
        // 336 minutes of 297 come to 99792.
        for (int i = 1; i <= 11; i++) {
            x.go(30);
            due("talk", x.count(6), 297 * 30 * i);
            for (int walker = 0; walker < 3; walker++) {
                x.sit(walker, 30);
            }
        }
        x.go(6);
        due("99792", x.count(6), 99792);
        due("ahead", x.ahead(1, 0, 0), 207);
        x.go(1);
        due("99999", x.count(6), 99999);
        x.go(1);
        due("99999 yet", x.count(6), 99999);
        due("no more", x.ahead(1, 0, 0), 0);
    }

    @Says("they MET.")
    static void promise14_go_theyMetWithoutTalk() {
        HalfLandings x = behind(1, PAIR + "law talk 0;");
        due("a met d", x.walker(0, 6), 2);
        due("d met a", x.walker(1, 6), 1);
        HalfLandings y = behind(1, "bench b 1 1;bench c 2 1;walker a 0 0 1 0;walker d 0 0 2 0;rest a b 9;rest d c 9;");
        due("not at two benches", y.walker(0, 6), 0);
    }

    private static int worn(String law) {
        return behind(1, ONE + law).bench(0, 2);
    }

    @Says({"it is more WORN by E of wear (0 .. 99; 1 without, with an ERROR),", "9999 at most."})
    static void promise14_go_wornBy0To99() {
        due("without", worn(""), 1);
        due("an ERROR", worn("law wear 1/0;"), 1);
        due("0", worn("law wear 0;"), 0);
        due("99", worn("law wear 99;"), 99);
        due("100", worn("law wear 100;"), 99);
        due("below 0", worn("law wear 0-1;"), 0);
        // 102 minutes of 98 come to 9996.
        HalfLandings x = told(ONE + "law wear 98;");
        for (int i = 1; i <= 3; i++) {
            x.go(30);
            x.sit(0, 30);
        }
        x.go(12);
        due("9996", x.bench(0, 2), 9996);
        x.go(1);
        due("9999", x.bench(0, 2), 9999);
        x.go(1);
        due("9999 yet", x.bench(0, 2), 9999);
    }

    @Says("(4) by BENCHES, by numbers, each who SITS there:")
    static void promise14_go_wornByOneBehindAnother() {
        HalfLandings x = behind(1, PAIR + "law wear worn+pace;");
        due("1, then 1 + 1", x.bench(0, 2), 3);
        x.go(1);
        due("4, then 8", x.bench(0, 2), 15);
        HalfLandings y = behind(1, "bench b 1 2;walker a 0 0 9 0;walker d 0 0 1 0;rest a b 9;rest d b 9;law wear pace*5+worn;");
        due("45, then 45 + 5", y.bench(0, 2), 95);
    }

    @Says("(5) by numbers each who SITS has SAT one MINUTE more (999 at most);")
    static void promise14_go_sat999AtMost() {
        HalfLandings x = told(ONE);
        for (int i = 1; i <= 33; i++) {
            x.go(30);
            due("sat", x.walker(0, 5), 30 * i);
            x.sit(0, 30);
        }
        x.go(9);
        due("999", x.walker(0, 5), 999);
        x.go(1);
        due("999 yet", x.walker(0, 5), 999);
        due("he sits", x.walker(0, 0), 2);
    }

    @Says("one less is left: none, and he WALKS;")
    static void promise14_go_noneIsLeft() {
        HalfLandings x = behind(1, "bench b 1 2;walker a 0 0 1 0;walker d 0 0 1 0;rest a b 1;rest d b 2;");
        due("one minute", where(x, 0), 1010);
        due("two minutes", where(x, 1), 2010);
        x.go(1);
        due("a went on", where(x, 0), 1020);
        due("d walks", where(x, 1), 1010);
        due("they talked once", x.count(6), 1);
    }

    private static int seedOfFirst(int number) {
        int seed = 0;
        while (nextState(seed) / 65536 % 100 != number) {
            seed++;
        }
        return seed;
    }

    @Says("else a number modulo 100 (no number, if call is 0 or 100) below call: he WALKS.")
    static void promise14_go_belowCall() {
        for (int number : new int[] {0, 1, 37, 98}) {
            String seed = "seed " + seedOfFirst(number) + ";";
            if (number > 0) {
                due("not below " + number, behind(1, ONE + seed + "call " + number + ";").walker(0, 0), 2);
            }
            due("below " + (number + 1), behind(1, ONE + seed + "call " + (number + 1) + ";").walker(0, 0), 1);
        }
        due("99 isn't below 99", behind(1, ONE + "call 99;seed " + seedOfFirst(99) + ";").walker(0, 0), 2);
        due("all are below 100", behind(1, ONE + "call 100;seed " + seedOfFirst(99) + ";").walker(0, 0), 1);
        due("none is below 0", behind(29, ONE + "call 0;seed " + seedOfFirst(0) + ";").walker(0, 0), 2);
        due("no minutes are left then", behind(1, ONE + "call 100;").walker(0, 4), 0);
    }

    private static int minutesUntilCalled(long seed, int call) {
        long state = nextState(seed);
        int minutes = 1;
        while (minutes < 30 && !isCalled(state, call)) {
            state = nextState(state);
            minutes++;
        }
        return minutes;
    }

    @Says({"Numbers are the last one (at first the seed) times 1103515245 and 12345, without what is above 31 bits, by 65536.",
        "seed: 0 .. 99999 (0)."})
    static void promise14_go_numbersOneBehindAnother() {
        for (int seed : new int[] {0, 1, 2, 77, 4242, 99998, 99999}) {
            for (int call : new int[] {1, 5, 10, 33, 50, 99}) {
                HalfLandings x = behind(30, ONE + "call " + call + ";seed " + seed + ";");
                due("seed " + seed + ", call " + call, x.walker(0, 5), minutesUntilCalled(seed, call));
            }
        }
    }

    @Says({"else a number modulo 100", "(5) by numbers each who SITS"})
    static void promise14_go_noNumberForTheLastMinute() {
        // a's rest ends in the first minute, so that d has the first number.
        for (int seed = 0; seed < 40; seed++) {
            HalfLandings x = behind(30, "bench b 1 2;walker a 0 0 1 0;walker d 0 0 1 0;rest a b 1;rest d b 30;call 20;seed " + seed + ";");
            due("d by seed " + seed, x.walker(1, 5), minutesUntilCalled(seed, 20));
        }
    }

    @Says({"else a number modulo 100", "(5) by numbers each who SITS"})
    static void promise14_go_numbersByWalkers() {
        // The first walker sits on the second bench, and yet has the first number.
        for (int seed = 0; seed < 40; seed++) {
            HalfLandings x = behind(1, "bench b 1 1;bench c 2 1;walker a 0 0 2 0;walker d 0 0 1 0;rest a c 9;rest d b 9;call 50;seed " + seed + ";");
            long first = nextState(seed);
            due("a by seed " + seed, x.walker(0, 0), isCalled(first, 50) ? 1 : 2);
            due("d by seed " + seed, x.walker(1, 0), isCalled(nextState(first), 50) ? 1 : 2);
        }
    }
}
