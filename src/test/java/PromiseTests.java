/** Each promise of the document by cases worked out by hand: ordinary ones, edges, wrong inputs. */
public final class PromiseTests extends Check {
    private static final String TWO =
        "stair 12;bench low 3 1;bench mid 6 2;bench hi 9 2;walker ann 0 0 3 0;walker bo 12 1 3 1;rest ann mid 4;rest bo mid 2;";

    public static void main(String[] args) {
        newObject();
        feeding();
        reading();
        faultsOfLines();
        faultsOfLaws();
        faultsOfKnots();
        names();
        walkers();
        minutesOnTheStair();
        benchesAndRests();
        laws();
        limitsOfLaws();
        sittingAndRising();
        pushing();
        going();
        callsByNumbers();
        looksAhead();
        meetingAndPassing();
        bestRest();
        covers();
        carrying();
        games();
        quietMinutes();
        seenAndStruck();
        pacesSeen();
        chances();
        triedOtherwise();
        undoing();
        images();
        counts();
        endWith("");
    }

    private static void newObject() {
        HalfLandings x = new HalfLandings();
        due("NONE", HalfLandings.NONE, -1);
        for (int what = 0; what <= 13; what++) {
            due("count(" + what + ") of a new object", x.count(what), what == 3 ? 20 : 0);
        }
        due("piano() of a new object", x.piano(), -2);
        due("fault(0) of a new object", x.fault(0), 0);
        due("fault(1) of a new object", x.fault(1), -1);
        due("back() of a new object", x.back(), -1);
        due("undo() of a new object", x.undo(), -1);
        due("text(1) of an empty tape", x.text(1), -2);
        due("text(0) of an empty tape", x.text(0), 0);
    }

    private static void feeding() {
        HalfLandings x = new HalfLandings();
        for (int i = 1; i <= 35; i++) {
            due("feed " + i, x.feed(0x20202020, 0x20202020, 0x20202020, 0x20202020, 0x20202020), 20 * i);
        }
        due("feed beyond 700", x.feed(0, 0, 0, 0, 0), -1);
        due("text beyond 700", x.text(701), -2);
        due("text of 700 blanks", x.text(700), 0);
        due("feed on an empty tape", x.feed(0x73656564, 0x20373b20, 0x20202020, 0x20202020, 0x20202020), 20);
        due("the highest byte comes first", x.text(7), 1);
        x.feed(0x20202020, 0x20ff2020, 0, 0, 0);
        due("a byte above 127 is no token", x.text(20), -1);
        due("its kind", x.fault(0), 1);
        due("its place", x.fault(1), 5);
        x.feed(0x20202020, 0x20202020, 0x20202020, 0x20202020, 0x2020200a);
        due("blanks 10 and 32", x.text(20), 0);
        x.feed(0x20090000, 0, 0, 0, 0);
        due("9 is no blank", x.text(2), -1);
    }

    private static void reading() {
        HalfLandings x = new HalfLandings();
        feedAll(x, "call 7;seed 5;");
        due("text(-1)", x.text(-1), -2);
        due("text(21)", x.text(21), -2);
        due("a part of the tape", x.text(7), 1);
        due("the tape is empty then", x.text(1), -2);
        due("call 7", x.quiet(1, 0), 93);
        due("text of a fault", tell(x, "call 8;call 9;"), -1);
        due("all stays with a fault", x.quiet(1, 0), 93);
        due("the tape is empty then, too", x.text(1), -2);
        due("-2 leaves the fault", x.fault(0), 3);
        due("a text of three lines", tell(x, " call 8 ;\nseed 9; piano 3 ;"), 3);
        due("without a fault", x.fault(0), 0);
        due("without its place", x.fault(1), -1);

        x = told(TWO);
        x.go(3);
        x.see(1, 0, 0, true);
        x.known(0);
        x.rise(0);
        x.keep();
        due("a fault behind minutes", tell(x, "x"), -1);
        due("the minute stays", x.count(5), 3);
        due("talk stays", x.count(6), 1);
        due("seen stays", x.count(11), 1);
        due("known stays", x.count(12), 0);
        due("what can be undone stays", x.count(13), 1);
        due("walkers stay", x.count(1), 2);
        due("the image stays", x.back(), 3);
        x.rise(1);
        due("a new text", tell(x, TWO), 8);
        for (int what = 5; what <= 13; what++) {
            due("count(" + what + ") behind a new text", x.count(what), 0);
        }
        due("no image", x.back(), -1);
        due("nothing to undo", x.undo(), -1);
        due("all wait", x.walker(0, 0) + x.walker(1, 0), 0);
        due("at their steps", x.walker(0, 1) * 100 + x.walker(1, 1), 12);
        due("nobody met", x.walker(0, 6), 0);
        due("nobody sat", x.walker(0, 5), 0);
        due("nobody will sit yet", x.walker(0, 4), 0);
        due("no rest taken", x.restOf(0, 3), 0);
        x.see(1, 0, 0, true);
        due("all are known", x.count(12), 1);
        due("fault(2)", x.fault(2), -1);
        due("fault(-1)", x.fault(-1), -1);
        textsOneBehindAnother();
        textsThatAreCut();
    }

    private static void textsOneBehindAnother() {
        HalfLandings x = new HalfLandings();
        for (int i = 0; i < 4; i++) {
            due("all lines, time " + i, tell(x, TWO + "piano 11;call 40;seed 3;law sits 1;law talk 2*3;law wear 1+1;"), 14);
            due("knots, time " + i, x.count(4), 7);
            due("a fault in a law, time " + i, tell(x, "stair 3;law sits 1+(2*(3<not"), -1);
            due("the law of before, time " + i, x.law(1, 0, 0), 6);
        }
        for (int i = 0; i < 2; i++) {
            due("no lines, time " + i, x.text(0), 0);
            for (int what = 0; what <= 13; what++) {
                due("count(" + what + ") without lines", x.count(what), what == 3 ? 20 : 0);
            }
            due("no piano without lines", x.piano(), -2);
            due("no call without lines", x.quiet(1, 0), 1);
            due("no bench by its name", x.named(0, code("mid")), -1);
            due("no walker by his name", x.named(1, code("ann")), -1);
            due("no laws", tell(x, "bench b 1 1;walker a 0 0 1 0;"), 2);
            due("law of before", x.law(0, 0, 0), ERROR);
        }
        due("a bench at a step of before", tell(x, "bench b 3 1;bench c 1 1;"), 2);
        for (int i = 0; i < 4; i++) {
            tell(x, "bench b 3 1;walker a 0 0 1 0;law talk 1" + times("+1", 31) + ";");
            due("63 knots, time " + i, x.law(1, 0, 0), 32);
        }

        x = told(TWO);
        x.go(3);
        due("ann sits yet", x.walker(0, 4), 2);
        tell(x, TWO);
        due("ann waits", x.walker(0, 4), 0);
        String called = "bench b 1 1;walker a 0 0 1 0;rest a b 30;call 20;";
        HalfLandings fresh = told(called);
        fresh.go(30);
        x = told("seed 77;");
        tell(x, "seed 77;");
        tell(x, called);
        x.go(30);
        due("no seed is left", x.walker(0, 5), fresh.walker(0, 5));
    }

    private static void cut(String text, int n, int place) {
        HalfLandings x = new HalfLandings();
        feedAll(x, text);
        due(text + " cut at " + n, x.text(n), -1);
        due("fault(0) of " + text + " cut at " + n, x.fault(0), 1);
        due("fault(1) of " + text + " cut at " + n, x.fault(1), place);
    }

    private static void textsThatAreCut() {
        cut("stair 600;", 7, 7);
        cut("piano 5;lawx", 11, 11);
        cut("law sits 1<=2;", 11, 11);
        cut("law sits 1<>2;", 11, 11);
        cut("law sits 1>=2;", 11, 11);
        cut("seed 5;", 6, 6);
    }

    private static void faultsOfLines() {
        lines("", 0);
        lines(" \n ", 0);
        fault(";", 1, 0);
        fault("x;", 1, 0);
        fault("stair", 1, 5);
        fault("stair 5", 1, 7);
        fault("stair 5 \n ", 1, 10);
        fault("Stair 5;", 1, 0);
        fault("stair x;", 1, 6);
        fault("stairs 5;", 1, 0);
        lines("stair 2;", 1);
        lines("stair 60;", 1);
        lines("stair\n0000000000000000000000060\n;", 1);
        fault("stair 1;", 2, 6);
        fault("stair 61;", 2, 6);
        fault("stair 4294967300;", 2, 6);
        fault("stair 18446744073709551636;", 2, 6);
        fault("stair 5;stair 5;", 1, 8);
        fault("seed 5;stair 5;", 1, 7);
        fault("seed 5;;", 1, 7);
        fault("seed 5 6;", 1, 7);

        lines("bench abcdef 1 1;", 1);
        lines("bench a1 2;", 1);
        lines("bench a 19 3;", 1);
        lines("stair 60;bench a 59 3;", 2);
        fault("bench abcdefg 1 1;", 1, 6);
        fault("bench minute 1 1;", 1, 6);
        fault("bench sits 1 1;", 1, 6);
        fault("bench 7 1 1;", 1, 6);
        fault("bench a 1;", 1, 9);
        fault("bench a 1 1 1;", 1, 12);
        fault("bench a 1 1", 1, 11);
        fault("bench a 0 1;", 2, 8);
        fault("bench a 20 1;", 2, 8);
        fault("stair 2;bench a 2 1;", 2, 16);
        fault("bench a 1 0;", 2, 10);
        fault("bench a 1 4;", 2, 10);
        fault("bench a 1 1;bench a 2 1;", 3, 18);
        fault("bench a 1 1;bench b 1 1;", 3, 20);
        fault("bench a 1 1;bench b 1 9;", 3, 20);
        lines("bench a 1 1;walker a 0 0 1 0;", 2);
        StringBuilder benches = new StringBuilder();
        for (int i = 0; i < 8; i++) {
            benches.append("bench ").append((char) ('a' + i)).append(' ').append(i + 1).append(" 1;");
        }
        lines(benches.toString(), 8);
        fault(benches + "bench", 2, 96);
        fault(benches + " bench a 1 1;", 2, 97);

        lines("walker a 0 0 1 0;walker b 20 1 9 99;", 2);
        fault("walker a 21 0 1 0;", 2, 9);
        fault("walker a 0 2 1 0;", 2, 11);
        fault("walker a 0 0 0 0;", 2, 13);
        fault("walker a 0 0 10 0;", 2, 13);
        fault("walker a 0 0 1 100;", 2, 15);
        fault("walker a 0 0 1;", 1, 14);
        fault("walker or 0 0 1 0;", 1, 7);
        fault("walker a 0 0 1 0;walker a", 3, 24);
        fault(times("walker a 0 0 1 0;", 1) + "walker b 0 0 1 0;walker c 0 0 1 0;walker d 0 0 1 0;walker e 0 0 1 0;"
            + "walker f 0 0 1 0;walker", 2, 102);

        String one = "walker w 0 0 1 0;bench b 1 1;";
        lines(one + "rest w b 1;rest w b 30;", 4);
        lines(one + times("rest w b 1;", 12), 14);
        fault(one + times("rest w b 1;", 12) + "rest", 2, 161);
        fault(one + "rest w b 0;", 2, 38);
        fault(one + "rest w b 31;", 2, 38);
        fault(one + "rest b b 1;", 4, 34);
        fault(one + "rest w w 1;", 4, 36);
        fault(one + "rest v", 4, 34);
        fault(one + "rest up b 1;", 1, 34);
        fault(one + "rest w 1 1;", 1, 36);
        fault("rest w b 1;walker w 0 0 1 0;", 4, 5);

        lines("piano 1;call 0;seed 0;", 3);
        lines("piano 19;call 100;seed 99999;", 3);
        lines("bench a 5 1;walker b 5 1 1 0;piano 5;", 3);
        fault("piano 0;", 2, 6);
        fault("piano 20;", 2, 6);
        fault("call 101;", 2, 5);
        fault("seed 100000;", 2, 5);
        fault("seed 1000000000000;", 2, 5);
        fault("piano 1;piano", 3, 8);
        fault("call 1;call x", 3, 7);
        fault("seed 1;seed 999999", 3, 7);
        fault("call;", 1, 4);
        fault("#", 1, 0);
        fault("seed 5;#", 1, 7);
        fault("seed 5# ", 1, 6);
    }

    private static void faultsOfLaws() {
        lines("law sits 1;law talk 2;law wear 3;", 3);
        fault("law", 1, 3);
        fault("law pace 1;", 1, 4);
        fault("law law 1;", 1, 4);
        fault("law or 1;", 1, 4);
        fault("law x 1;", 1, 4);
        fault("law sits", 1, 8);
        fault("law sits;", 1, 8);
        fault("law sits 1;law sits", 3, 15);
        fault("law wear 1;law wear 10000;", 3, 15);
        lines("law sits 9999;", 1);
        fault("law sits 10000;", 2, 9);
        fault("law sits x;", 1, 9);
        fault("law sits talk;", 1, 9);
        fault("law sits -1;", 1, 9);
        fault("law sits 1+;", 1, 11);
        fault("law sits 1 1;", 1, 11);
        fault("law sits 1(2);", 1, 10);
        fault("law sits ();", 1, 10);
        fault("law sits (1;", 1, 11);
        fault("law sits (1", 1, 11);
        fault("law sits 1);", 1, 10);
        fault("law sits (1));", 1, 12);
        fault("law sits and 1;", 1, 9);
        fault("law sits 1 or;", 1, 13);
        fault("law sits 1 not 2;", 1, 11);
        fault("law sits 1<not 2;", 1, 11);
        fault("law sits 1+not 2;", 1, 11);
        fault("law sits 1*not 2;", 1, 11);
        fault("law sits not;", 1, 12);
        lines("law sits not not 1;", 1);
        lines("law sits 1+(not 2);", 1);
        lines("law sits 1<(not 2);", 1);
        lines("law sits " + times("(", 8) + times("not ", 63) + "1" + times(")", 8) + ";", 1);
        lines("law sits 1 and not 2 or not (not 3);", 1);
        lines("law sits 1<=2;", 1);
        lines("law sits 1<>2;", 1);
        lines("law sits 1>=2;", 1);
        fault("law sits 1< =2;", 1, 12);
        fault("law sits 1< >2;", 1, 12);
        fault("law sits 1><2;", 1, 11);
        fault("law sits 1=<2;", 1, 11);
        fault("law sits 1==2;", 1, 11);
        fault("law sits 1<==2;", 1, 12);
        fault("law sits 1<2<3;", 1, 12);
        fault("law sits 1+2<3*4=5;", 1, 16);
        fault("law sits not 1<2<3;", 1, 16);
        lines("law sits (1<2)<3;", 1);
        lines("law sits 1<(2<3);", 1);
        lines("law sits 1<2 and 2<3 or 3<4;", 1);
        lines("law sits " + times("(", 8) + "1" + times(")", 8) + ";", 1);
        fault("law sits " + times("(", 9) + "1" + times(")", 9) + ";", 2, 17);
        lines("law sits " + times("(1)+", 9) + "1;", 1);
        lines("law sits " + times("(", 8) + "1" + times(")", 8) + "+" + times("(", 8) + "1" + times(")", 8) + ";", 1);
        fault("law sits " + times("(", 7) + "1+(1)+((1))", 2, 23);
    }

    private static void faultsOfKnots() {
        String many = "1" + times("+1", 31);
        HalfLandings x = told("law sits " + many + ";");
        due("63 knots", x.count(4), 63);
        x = told("law sits not " + many + ";");
        due("64 knots", x.count(4), 64);
        fault("law sits " + many + "+1;", 2, 73);
        fault("law sits not " + many + "+1;", 2, 76);
        fault("law sits " + many + ";law talk 1+1;", 2, 83);
        fault("law sits " + many + ";law talk not up;", 2, 86);
        fault("law sits " + many + ";law talk not not 1;", 2, 86);
        fault("law sits not " + many + " 1;", 1, 77);
        fault("law sits not " + many, 1, 76);
        fault("law sits not " + many + " and;", 2, 77);
        fault("law sits not 1<1" + times("+1", 30) + "<1;", 1, 76);
        x = told("law sits (((1)))+((2));");
        due("'(' is no knot", x.count(4), 3);
        x = told("law sits pace;law talk not (up<>step);law wear worn*full/sat-minute;");
        due("knots of three laws", x.count(4), 1 + 4 + 7);
    }

    private static void names() {
        HalfLandings x = told("bench a 1 1;bench abcdef 2 1;walker zzzzzz 0 0 1 0;walker a 0 0 1 0;");
        due("named(0, a)", x.named(0, code("a")), 0);
        due("named(0, a) in numbers", x.named(0, 1 << 25), 0);
        due("named(0, abcdef)", x.named(0, code("abcdef")), 1);
        due("named(1, a)", x.named(1, code("a")), 1);
        due("named(1, zzzzzz)", x.named(1, code("zzzzzz")), 0);
        due("named(0, zzzzzz)", x.named(0, code("zzzzzz")), -1);
        due("named(0, 1)", x.named(0, 1), -1);
        due("named(0, 0)", x.named(0, 0), -1);
        due("named(0, ab)", x.named(0, code("ab")), -1);
        due("named(0, a and more bits)", x.named(0, code("a") | 1 << 30), -1);
        due("named(2, a)", x.named(2, code("a")), -1);
        due("named(-1, a)", x.named(-1, code("a")), -1);
    }

    private static void walkers() {
        HalfLandings x = new HalfLandings();
        due("walker(0, 0) without walkers", thrown(x, 0, 0), 1);
        x = told(TWO);
        due("walker(-1, 0)", thrown(x, -1, 0), 1);
        due("walker(2, 0)", thrown(x, 2, 0), 1);
        due("walker(2, 7)", thrown(x, 2, 7), 1);
        due("walker(0, 7)", thrown(x, 0, 7), 2);
        due("walker(0, -1)", thrown(x, 0, -1), 2);
        int[] bo = {0, 12, 1, 3, 0, 0, 0};
        for (int what = 0; what <= 6; what++) {
            due("bo waits, what " + what, x.walker(1, what), bo[what]);
        }
        x.go(3);
        int[] ann = {2, 6, 0, 3, 2, 2, 2};
        for (int what = 0; what <= 6; what++) {
            due("ann sits, what " + what, x.walker(0, what), ann[what]);
        }
        due("bo sits yet", x.walker(1, 4), 1);
        due("bo met", x.walker(1, 6), 1);
        x.go(1);
        due("bo walks", x.walker(1, 0), 1);
        due("bo's minutes", x.walker(1, 4), 0);
        due("bo sat", x.walker(1, 5), 2);
        x.go(3);
        due("both are out", x.walker(0, 0) + x.walker(1, 0), 6);
        due("ann at the top", x.walker(0, 1), 12);
        due("bo at 0", x.walker(1, 1), 0);
    }

    private static void minutesOnTheStair() {
        HalfLandings x = told("stair 9;walker a 0 1 1 0;walker b 9 0 1 0;walker c 0 0 9 0;walker d 8 1 2 3;");
        x.go(1);
        due("no next one below", x.walker(0, 0) * 10 + x.walker(0, 1), 30);
        due("no next one above", x.walker(1, 0) * 10 + x.walker(1, 1), 39);
        due("up to the top", x.walker(2, 0) * 10 + x.walker(2, 1), 39);
        due("d waits", x.walker(3, 0), 0);
        x.go(2);
        due("d waits yet", x.walker(3, 0), 0);
        x.go(1);
        due("d walks down", x.walker(3, 0) * 10 + x.walker(3, 1), 16);
        x.go(3);
        due("d is out at 0", x.walker(3, 0) * 10 + x.walker(3, 1), 30);

        x = told("stair 9;walker a 2 0 3 0;piano 4;");
        x.go(1);
        due("turns at the piano", x.walker(0, 1) * 10 + x.walker(0, 2), 31);
        due("and walks", x.walker(0, 0), 1);
        x.go(1);
        due("goes down", x.walker(0, 0) * 10 + x.walker(0, 1), 30);
        x = told("walker a 0 0 3 0;piano 1;");
        x.go(1);
        due("turns at 0", x.walker(0, 0) * 10 + x.walker(0, 2), 11);
        x.go(1);
        due("and is out", x.walker(0, 0) * 10 + x.walker(0, 1), 30);
        x = told("walker a 4 0 2 0;piano 4;");
        x.go(1);
        due("the piano's own step can be left", x.walker(0, 1), 6);

        x = told("bench b 2 1;bench c 3 1;walker a 2 0 1 0;law sits 1;");
        x.go(1);
        due("passes no bench that he can sit on", x.walker(0, 1), 3);
        x = told("bench b 1 1;bench c 2 1;walker a 0 0 9 0;walker d 0 0 9 0;walker e 0 0 9 0;law sits 1;");
        x.go(1);
        due("by numbers a sits first", x.bench(0, 2) * 10 + x.bench(1, 2), 11);
        due("a on the first", x.walker(0, 1), 1);
        due("d on the second", x.walker(1, 1), 2);
        due("e goes on", x.walker(2, 1), 9);

        x = told("bench b 1 1;walker a 0 0 1 0;walker d 0 0 1 0;rest a b 3;rest d b 5;");
        x.go(1);
        due("no seat, no rest taken", x.restOf(0, 3) * 10 + x.restOf(1, 3), 10);
        due("d walks on", x.walker(1, 0), 1);

        x = told("bench b 2 1;walker a 0 0 2 0;piano 4;rest a b 2;rest a b 7;law sits 0;");
        x.go(1);
        due("the first rest", x.walker(0, 4), 1);
        due("is taken", x.restOf(0, 3) * 10 + x.restOf(1, 3), 10);
        x.go(1);
        due("walks again", x.walker(0, 0), 1);
        x.go(1);
        due("turned at the piano", x.walker(0, 1) * 10 + x.walker(0, 2), 31);
        x.go(1);
        due("the second rest", x.walker(0, 4), 6);
        due("is taken, too", x.restOf(1, 3), 1);

        x = told("bench b 1 3;walker a 0 0 1 0;walker d 0 0 1 0;walker e 0 0 1 0;rest a b 9;rest d b 9;rest e b 9;"
            + "law talk 100*pace;law wear worn+1;");
        x.go(1);
        due("three pairs, 99 each", x.count(6), 297);
        due("worn by one behind another", x.bench(0, 2), 1 + 2 + 4);
        due("met", x.walker(0, 6) * 100 + x.walker(1, 6) * 10 + x.walker(2, 6), 653);
        x.go(3);
        due("wear is 99 at most", x.bench(0, 2), 7 + 8 + 16 + 32 + 64 + 99 * 5);
        x = told("bench b 1 2;walker a 0 0 1 0;walker d 0 0 1 0;rest a b 9;rest d b 9;law talk 0-5;law wear 1/0;");
        x.go(3);
        due("talk below 0 is 0", x.count(6), 0);
        due("they met all the same", x.walker(0, 6), 2);
        due("wear with an error is 1", x.bench(0, 2), 6);
        x = told("bench b 1 2;walker a 0 0 1 0;walker d 0 0 1 0;rest a b 9;rest d b 9;law talk 1/0;law wear 0;law sits 1/0;");
        x.go(3);
        due("talk with an error is 1", x.count(6), 3);
        due("wear 0", x.bench(0, 2), 0);
        x = told("bench b 1 2;bench c 2 2;walker a 0 0 1 0;rest a b 1;law sits 1/0;");
        x.go(2);
        due("sits with an error is 0", x.walker(0, 0) * 10 + x.walker(0, 1), 12);
        x = told("bench b 1 2;walker a 0 0 1 0;walker d 0 0 2 0;rest a b 9;rest d b 9;law talk pace*10+sat;");
        x.go(2);
        due("talk is the first one's", x.count(6), 10 + 11);
        x = told("bench b 1 2;walker a 0 0 1 0;law sits 5;");
        x.go(1);
        due("one minute by the law", x.walker(0, 0) * 10 + x.walker(0, 5), 11);
    }

    private static void benchesAndRests() {
        HalfLandings x = told(TWO);
        x.go(3);
        int[] mid = {6, 2, 3, 3, 0};
        int[] low = {3, 1, 0, 0, 1};
        for (int what = 0; what <= 4; what++) {
            due("bench mid, what " + what, x.bench(1, what), mid[what]);
            due("bench low, what " + what, x.bench(0, what), low[what]);
        }
        due("bench(3, 0)", x.bench(3, 0), -1);
        due("bench(-1, 0)", x.bench(-1, 0), -1);
        due("bench(0, 5)", x.bench(0, 5), -1);
        due("bench(0, -1)", x.bench(0, -1), -1);
        int[] rest = {1, 1, 2, 1};
        for (int what = 0; what <= 3; what++) {
            due("restOf(1, " + what + ")", x.restOf(1, what), rest[what]);
        }
        due("restOf(2, 0)", x.restOf(2, 0), -1);
        due("restOf(-1, 0)", x.restOf(-1, 0), -1);
        due("restOf(0, 4)", x.restOf(0, 4), -1);
        due("restOf(0, -1)", x.restOf(0, -1), -1);
        due("piano()", x.piano(), -2);
        due("piano() of 7", told("piano 7;").piano(), 7);
    }

    private static void value(String e, long want) {
        HalfLandings x = told("bench b 5 1;walker w 0 0 4 0;law talk " + e + ";");
        due("law of " + e, x.law(1, 0, 0), want);
    }

    private static void laws() {
        value("1+2*3", 7);
        value("(1+2)*3", 9);
        value("10-4-3", 3);
        value("10-(4-3)", 9);
        value("100/10/5", 2);
        value("100/(10/5)", 50);
        value("7*3/2", 10);
        value("7/2*3", 9);
        value("7/2", 3);
        value("(0-7)/2", -3);
        value("7/(0-2)", -3);
        value("0-7/2", -3);
        value("1<2", 1);
        value("2<2", 0);
        value("2<=2", 1);
        value("3<=2", 0);
        value("2=2", 1);
        value("2=3", 0);
        value("2<>3", 1);
        value("2<>2", 0);
        value("2>=2", 1);
        value("1>=2", 0);
        value("3>2", 1);
        value("2>2", 0);
        value("1+1=2", 1);
        value("5 and 7", 1);
        value("5 and 0", 0);
        value("0 or 7", 1);
        value("0 or 0", 0);
        value("not 5", 0);
        value("not 0", 1);
        value("not not 5", 1);
        value("not 1<0", 1);
        value("not 0+1", 0);
        value("(not 0)+1", 2);
        value("not 0 and 0", 0);
        value("not (0 and 0)", 1);
        value("1 or 1 and 0", 1);
        value("(1 or 1) and 0", 0);
        value("0 and 1 or 1", 1);
        value("2 or 1/0", ERROR);
        value("0 and 1/0", ERROR);
        value("1/0", ERROR);
        value("0*(1/0)", ERROR);
        value("pace", 4);
        value("up", 1);
        value("step", 5);
        value("worn", 0);
        value("full", 0);
        value("sat", 0);
        value("minute", 0);

        HalfLandings x = told("stair 9;bench b 2 2;bench c 7 2;walker a 0 0 2 0;walker d 9 1 3 0;rest a b 9;"
            + "law sits up*1000+step;law talk worn*1000+full*100+sat*10+minute;law wear pace;");
        x.go(3);
        due("up and the bench's step", x.law(0, 0, 0), 1002);
        due("another bench's step", x.law(0, 0, 1), 1007);
        due("down", x.law(0, 1, 1), 7);
        // By then a sat 3 minutes on b, and d one minute each on c and b (by the law of sitting).
        due("worn, full, sat, minute of a at b", x.law(1, 0, 0), (6 + 3) * 1000 + 100 + 30 + 3);
        due("of d at c", x.law(1, 1, 1), 3 * 1000 + 20 + 3);
        due("law(2, 1, 0)", x.law(2, 1, 0), 3);
        due("law(3, 0, 0)", x.law(3, 0, 0), ERROR);
        due("law(-1, 0, 0)", x.law(-1, 0, 0), ERROR);
        due("law(0, 2, 0)", x.law(0, 2, 0), ERROR);
        due("law(0, -1, 0)", x.law(0, -1, 0), ERROR);
        due("law(0, 0, 2)", x.law(0, 0, 2), ERROR);
        due("law(0, 0, -1)", x.law(0, 0, -1), ERROR);
        due("a law that isn't told", told("bench b 5 1;walker w 0 0 4 0;").law(0, 0, 0), ERROR);
    }

    private static void limitsOfLaws() {
        value("1000*1000*1000*1000", 1000000000000L);
        value("1000*1000*1000*1000+1", ERROR);
        value("0-1000*1000*1000*1000", -1000000000000L);
        value("0-1000*1000*1000*1000-1", ERROR);
        value("1000*1000*1000*1000*1", 1000000000000L);
        value("1000*1000*1000*1001", ERROR);
        value("(1000*1000*1000*1000)*(1000*1000*1000*1000)", ERROR);
        value("4096*4096*4096*4096*4096*4096", ERROR);
        value("(4096*1024*1024)*(4096*1024*1024)", ERROR);
        value("(4096*1024*1024)*(4096*1024*1024*1)", ERROR);
        value("(0-4096*1024*1024)*(4096*1024*1024)", ERROR);
        value("9999*9999*1000+9999*9999*1000", 199960002000L);
        value("0*(1000*1000*1000*1000)", 0);
        value("(0-1000)*1000*1000*1000", -1000000000000L);
        value("(0-1001)*1000*1000*1000", ERROR);
        value("(0-1000)*(0-1000)*1000*1000", 1000000000000L);
        value("(1000*1000*1000*1000+1)*0", ERROR);
        value("9999*9999*9999", 999700029999L);
    }

    private static void sittingAndRising() {
        HalfLandings x = told("bench b 3 2;bench c 4 1;walker a 3 0 1 0;walker d 2 0 1 0;walker e 2 0 1 0;walker f 2 0 1 1;walker g 3 0 1 9;piano 9;");
        due("one who waits", x.sit(4, 5), -2);
        x.go(1);
        due("sit(5, 5)", x.sit(5, 5), -1);
        due("sit(-1, 5)", x.sit(-1, 5), -1);
        due("sit(0, 0)", x.sit(0, 0), -1);
        due("sit(0, 31)", x.sit(0, 31), -1);
        due("a on c", x.sit(0, 30), 1);
        due("a sits already", x.sit(0, 5), -2);
        due("a's minutes", x.walker(0, 4), 30);
        due("d on b", x.sit(1, 1), 1);
        due("e on b", x.sit(2, 2), 2);
        due("one who waits at another step", x.sit(3, 2), -2);
        due("FREE", x.bench(0, 4), 0);
        x.go(1);
        due("f on b: d got up", x.walker(1, 0), 1);
        due("f has d's seat", x.sit(3, 2), 2);
        due("but d has none then", x.sit(1, 2), -2);
        due("e's minutes", x.walker(2, 4), 1);
        due("rise(2)", x.rise(2), true);
        due("e walks", x.walker(2, 0), 1);
        due("e's minutes are 0", x.walker(2, 4), 0);
        due("e's step", x.walker(2, 1), 3);
        due("rise(2) again", x.rise(2), false);
        due("rise(4) waits", x.rise(4), false);
        due("rise(5)", x.rise(5), false);
        due("rise(-1)", x.rise(-1), false);
        due("one on no bench", told("walker a 3 0 1 0;").sit(0, 1), -2);
        x = told("stair 3;bench b 2 1;walker a 1 0 9 0;walker d 0 0 1 0;rest d b 1;");
        x.go(1);
        due("one who is out", x.sit(0, 1), -2);
        HalfLandings long60 = told("stair 60;walker a 59 0 9 0;");
        long60.go(1);
        due("one who is out at 60", long60.sit(0, 1), -2);
        due("one on a step without a bench", x.sit(1, 1), -2);
    }

    private static void pushing() {
        HalfLandings x = told("stair 10;walker a 6 0 1 9;walker b 3 1 1 0;piano 5;");
        due("push(0)", x.push(0), -1);
        due("push(4)", x.push(4), -1);
        due("push(-4)", x.push(-4), -1);
        due("push over one who waits", x.push(3), 8);
        due("push to the last step", x.push(1), 9);
        due("push to the top", x.push(1), -2);
        due("and it stays", x.piano(), 9);
        due("down", x.push(-3), 6);
        x.go(1);
        due("b is on 2", x.walker(1, 1), 2);
        due("down to 3", x.push(-3), 3);
        due("onto b", x.push(-1), -2);
        due("over b", x.push(-2), -2);
        due("to 0 over b", x.push(-3), -2);
        due("and it stays there", x.piano(), 3);
        x.go(2);
        due("b is out", x.walker(1, 0), 3);
        due("down to 1", x.push(-2), 1);
        due("to 0", x.push(-1), -2);
        due("push(1) without a piano", told("stair 5;").push(1), -1);
        x = told("bench b 3 1;walker a 2 0 1 0;rest a b 9;piano 5;");
        x.go(1);
        due("over one who sits", x.push(-3), -2);
        due("beside one who sits", x.push(-1), 4);
    }

    private static void going() {
        HalfLandings x = told(TWO);
        due("go(-1)", x.go(-1), -1);
        due("go(201)", x.go(201), -1);
        due("none went", x.count(5), 0);
        due("go(0)", x.go(0), 0);
        for (int i = 1; i <= 48; i++) {
            due("go(200), " + i, x.go(200), 200 * i);
        }
        due("go(199)", x.go(199), 9799);
        due("go(2) behind 9800", x.go(2), -1);
        due("none of them went", x.count(5), 9799);
        due("go(1)", x.go(1), 9800);
        due("go(0) at 9800", x.go(0), 9800);
        due("go(1) at 9800", x.go(1), -1);

        x = told("bench b 1 3;walker a 0 0 1 0;walker d 0 0 1 0;walker e 0 0 1 0;rest a b 30;rest d b 30;rest e b 30;"
            + "law talk 99;law wear 99;");
        for (int i = 1; i <= 34; i++) {
            x.go(30);
            due("talk 99999 at most", x.count(6), Math.min(3 * 99 * 30 * i, 99999));
            due("worn 9999 at most", x.bench(0, 2), Math.min(3 * 99 * 30 * i, 9999));
            due("sat 999 at most", x.walker(2, 5), Math.min(30 * i, 999));
            for (int walker = 0; walker < 3; walker++) {
                due("sits again", x.sit(walker, 30), walker + 1);
            }
        }
        due("no talk more", x.ahead(1, 0, 0), 0);
    }

    private static void callsByNumbers() {
        long state = 77;
        int sat = 0;
        boolean called = false;
        while (!called) {
            sat++;
            state = (state * 1103515245L + 12345L) % 2147483648L;
            called = state / 65536 % 100 < 20;
        }
        HalfLandings x = told("bench b 1 1;walker a 0 0 1 0;rest a b 30;call 20;seed 77;");
        x.go(30);
        due("minutes until the call", x.walker(0, 5), sat);
        x = told("bench b 1 1;walker a 0 0 1 0;rest a b 30;call 100;");
        x.go(1);
        due("always called", x.walker(0, 0), 1);
        due("no minutes are left", x.walker(0, 4), 0);
        x = told("bench b 1 1;walker a 0 0 1 0;rest a b 30;call 0;");
        x.go(29);
        due("never called", x.walker(0, 0), 2);
        x.go(1);
        due("but up in the end", x.walker(0, 0), 1);
        int seed = 0;
        while ((seed * 1103515245L + 12345L) % 2147483648L / 65536 % 100 != 99) {
            seed++;
        }
        x = told("bench b 1 1;walker a 0 0 1 0;rest a b 30;call 99;seed " + seed + ";");
        x.go(1);
        due("not called by 99 below 99", x.walker(0, 0), 2);

        // No number is drawn for the last minute of a rest, so b's first number is the seed's first.
        x = told("bench b 1 2;walker a 0 0 1 0;walker d 0 0 1 0;rest a b 1;rest d b 30;call 20;seed 77;");
        x.go(30);
        due("d's minutes until the call", x.walker(1, 5), sat);
        x = told("bench b 1 1;walker a 0 0 1 0;rest a b 30;call 50;");
        due("as it goes at 50: called", x.ahead(2, 2, 0), 2);
        x = told("bench b 1 1;walker a 0 0 1 0;rest a b 30;call 49;");
        due("as it goes at 49: not called", x.ahead(30, 2, 0), 1);
        due("up at last", x.ahead(31, 2, 0), 2);
    }

    private static void looksAhead() {
        HalfLandings x = told(TWO);
        due("ahead(0, 0, 9)", x.ahead(0, 0, 9), 0);
        due("ahead(200, 3, 9)", x.ahead(200, 3, 9), 2);
        due("ahead(201, 0, 0)", x.ahead(201, 0, 0), -1);
        due("ahead(-1, 0, 0)", x.ahead(-1, 0, 0), -1);
        due("ahead(1, 4, 0)", x.ahead(1, 4, 0), -1);
        due("ahead(1, -1, 0)", x.ahead(1, -1, 0), -1);
        due("ahead(1, 1, 3)", x.ahead(1, 1, 3), -1);
        due("ahead(1, 1, -1)", x.ahead(1, 1, -1), -1);
        due("ahead(1, 2, 2)", x.ahead(1, 2, 2), -1);
        due("ahead(1, 2, -1)", x.ahead(1, 2, -1), -1);
        due("ahead(4, 1, 1)", x.ahead(4, 1, 1), 5);
        due("ahead(2, 2, 1)", x.ahead(2, 2, 1), 9);
        due("nothing went by", x.count(5), 0);
        x.go(3);
        due("talk more", x.ahead(1, 0, 0), 1);
        due("all talk more", x.ahead(9, 0, 0), 1);
        due("worn then", x.ahead(1, 1, 1), 5);
    }

    private static void meetingAndPassing() {
        HalfLandings x = told(TWO);
        due("meet(0, 1)", x.meet(0, 1), 3);
        due("meet(1, 0)", x.meet(1, 0), 3);
        due("meet(0, 0)", x.meet(0, 0), -1);
        due("meet(0, 2)", x.meet(0, 2), -1);
        due("meet(-1, 0)", x.meet(-1, 0), -1);
        due("pass(0, 0)", x.pass(0, 0), -1);
        due("pass(2, 0)", x.pass(2, 0), -1);
        due("pass(0, -1)", x.pass(0, -1), -1);
        due("out(2)", x.out(2), -1);
        due("out(-1)", x.out(-1), -1);
        x.go(2);
        due("meet in this minute", x.meet(0, 1), 1);
        x.go(1);
        due("meet again", x.meet(0, 1), 1);
        x.go(1);
        due("not any more", x.meet(0, 1), -2);
        due("met stays", x.walker(0, 6), 2);
        due("out(0)", x.out(0), 3);
        x.go(3);
        due("out already", x.out(0), 0);
        due("pass of one who is out", x.pass(0, 1), -2);

        x = told("stair 9;walker a 0 0 2 0;walker b 9 1 2 0;walker c 0 0 1 0;");
        // Behind the minutes: a 2 4 6 8, b 7 5 3 1, c 1 2 3 4.
        due("pass(0, 1)", x.pass(0, 1), 3);
        due("pass(1, 0)", x.pass(1, 0), 3);
        due("pass(1, 2): on one step in between", x.pass(1, 2), -2);
        due("a was never below c, both there", x.pass(0, 2), -2);
        x = told("stair 9;walker a 3 0 2 0;walker c 4 0 1 0;");
        due("out in the same minute counts not", told("stair 3;walker a 1 0 2 0;walker b 2 1 1 0;").pass(0, 1), -2);
        due("a overtakes c only when both are on one step first", x.pass(0, 1), -2);
        x = told("stair 9;walker a 0 0 3 1;walker c 0 0 1 0;");
        // Behind the minutes: c 1 2 3, a waits, 3: he was not there ahead of it.
        due("one who begins", x.pass(0, 1), -2);

        x = told("bench b 1 1;walker a 0 0 1 99;rest a b 30;rest a b 30;");
        due("out far away", x.out(0), 99 + 30 + 19);
        x = told("stair 60;bench b 1 1;bench c 2 1;bench d 3 1;walker a 0 0 1 99;rest a b 30;rest a c 12;rest a d 1;");
        due("out in 199", x.out(0), 199);
        x = told("stair 60;bench b 1 1;bench c 2 1;bench d 3 1;walker a 0 0 1 99;rest a b 30;rest a c 12;rest a d 2;");
        due("out in 200", x.out(0), -2);
        String far = "stair 9;bench b 1 2;bench c 2 2;bench d 3 2;bench e 4 2;walker a 0 0 1 99;walker f 0 0 1 99;"
            + "rest a b 30;rest f b 29;rest a c 30;rest f c 29;rest a d 30;rest f d 29;";
        due("they meet in 100", told(far).meet(0, 1), 100);
        far = "stair 9;bench b 1 1;bench c 2 1;bench d 3 1;bench e 4 2;walker a 0 0 1 99;walker f 9 1 5 99;"
            + "rest a b 30;rest a c 30;rest a d 30;rest a e 9;rest f e 30;";
        due("f is gone by then", told(far).meet(0, 1), -2);

        // a is on step 4 + (m - 189) behind minute m from 189 on; f by his second rest r on 57 - (m - 129 - r).
        String slow = "stair 60;bench b 1 1;bench c 2 1;bench d 3 1;bench h 59 1;bench i 58 1;walker a 0 0 1 99;"
            + "walker f 60 1 1 99;rest a b 30;rest a c 30;rest a d 30;rest f h 30;rest f i ";
        due("they pass in 199", told(slow + "24;").pass(0, 1), 199);
        due("they pass in 200", told(slow + "26;").pass(0, 1), -2);
        due("they meet in 199", told(slow + "23;bench e 13 2;rest a e 1;rest f e 30;").meet(0, 1), 199);
        due("they meet in 200", told(slow + "23;bench e 14 2;rest a e 1;rest f e 30;").meet(0, 1), -2);
    }

    private static void bestRest() {
        HalfLandings x = told(TWO);
        due("best(2, 0, 0)", x.best(2, 0, 0), -1);
        due("best(-1, 0, 0)", x.best(-1, 0, 0), -1);
        due("best(0, 3, 0)", x.best(0, 3, 0), -1);
        due("best(0, -1, 0)", x.best(0, -1, 0), -1);
        due("best(0, 0, 2)", x.best(0, 0, 2), -1);
        due("best(0, 0, -1)", x.best(0, 0, -1), -1);

        // a sits from minute 0 on for 9 minutes; d comes at minute 2: 7 minutes with him at the most.
        String one = "bench b 1 2;walker a 0 0 1 0;walker d 0 0 1 2;rest a b 9;";
        x = told(one);
        due("the first of the best", x.best(1, 0, 0), 7);
        due("its talk", x.best(1, 0, 1), 7);
        due("nothing is told by it", x.count(2), 1);
        due("a rest more for a comes too late", x.best(0, 0, 0), 0);
        due("no talk by it", x.best(0, 0, 1), 0);
        x = told(one + "rest d b 3;");
        due("one told ahead is taken first", x.best(1, 0, 0), 0);
        due("its talk is d's", x.best(1, 0, 1), 3);
        x = told(one + times("rest d b 1;", 11));
        due("behind eleven others", x.best(1, 0, 1), 1);
        x = told("bench b 1 2;bench c 9 1;walker a 0 0 1 0;walker d 0 0 1 2;" + times("rest a c 1;", 11) + "rest a b 9;");
        due("a thirteenth rest", x.best(1, 0, 0), 7);
        due("and its talk", x.best(1, 0, 1), 7);
        due("twelve are told", x.count(2), 12);
        x = told("bench b 1 2;walker a 0 0 1 0;walker d 0 0 1 0;rest a b 30;");
        due("30 minutes", x.best(1, 0, 0), 30);
        x = told("bench b 1 2;walker a 0 0 1 0;walker d 0 0 1 0;rest a b 1;");
        due("none is not one minute", x.best(1, 0, 0), 1);
        x = told("bench c 9 1;bench b 1 1;walker a 0 0 1 0;piano 3;" + times("rest a c 1;", 11) + "rest a b 9;");
        due("the twelfth rest counts", x.out(0), 13);
        x.go(1);
        due("but is taken once", x.out(0), 12);
        x = told("bench b 1 2;bench c 2 2;walker a 0 0 1 0;walker d 0 0 1 0;rest a b 3;rest d b 3;rest a c 20;");
        x.go(2);
        due("talk until now", x.count(6), 2);
        due("d at c", x.best(1, 1, 0), 20);
        due("talk of the 60 minutes", x.best(1, 1, 1), 21);
        x = told("bench b 1 2;walker a 0 0 1 58;walker d 0 0 1 58;rest a b 30;");
        due("60 minutes and no more", x.best(1, 0, 0), 2);
        due("two of them with talk", x.best(1, 0, 1), 2);
    }

    private static void covers() {
        HalfLandings x = told(TWO);
        due("cover(0)", x.cover(0), -1);
        due("cover(61)", x.cover(61), -1);
        due("cover(-1)", x.cover(-1), -1);
        due("cover(60)", x.cover(60), 0);
        due("cover(12)", x.cover(12), 0);
        due("cover(11): the least of low, mid, hi", x.cover(11), 1);
        due("cover(8)", x.cover(8), 2);
        due("cover(5)", x.cover(5), 7);
        x = told("stair 12;bench a 9 1;bench b 3 1;bench c 6 1;");
        due("cover(9)", x.cover(9), 1);
        due("cover(6)", x.cover(6), 4);
        due("cover(4)", x.cover(4), 7);
        due("cover(3)", x.cover(3), 7);
        due("cover(2)", x.cover(2), -2);
        x = told("stair 10;bench a 4 1;bench b 3 1;bench c 6 1;bench d 7 1;");
        due("two of four, the least bits", x.cover(4), 5);
        due("one step at the most", told("stair 2;bench a 1 1;").cover(1), 1);
        StringBuilder all = new StringBuilder("stair 9;");
        for (int i = 1; i <= 8; i++) {
            all.append("bench ").append((char) ('a' + i)).append(' ').append(i).append(" 1;");
        }
        due("all eight", told(all.toString()).cover(1), 255);
        due("the longest stair", told("stair 60;bench a 30 1;").cover(30), 1);
        due("four of eight", told(all.toString()).cover(2), 1 + 4 + 16 + 64);
    }

    private static void carrying() {
        due("no piano", told("stair 5;").carry(), -1);
        for (int step = 1; step <= 9; step++) {
            due("from " + step, told("stair 10;piano " + step + ";").carry(), (9 - step + 2) / 3);
        }
        HalfLandings x = told("stair 10;bench b 7 1;walker a 6 0 1 0;rest a b 2;piano 3;");
        due("nobody is there yet", x.carry(), 2);
        x.go(1);
        due("one sits above", x.carry(), -2);
        x.go(2);
        due("one walks above", x.carry(), -2);
        x.go(2);
        due("one is out", x.carry(), 2);
        x = told("stair 10;walker a 4 1 1 0;piano 5;");
        x.go(1);
        due("one below", x.carry(), 2);
        x = told("stair 2;walker a 0 0 1 0;piano 1;");
        x.go(1);
        due("it is there", x.carry(), 0);
    }

    private static void games() {
        // Of paces p and q both sitting is a rest if q >= p and p >= q; both going on always is.
        HalfLandings x = told("walker a 0 0 3 0;walker b 0 0 5 0;walker c 0 0 1 0;walker d 0 0 1 0;walker e 0 0 3 0;");
        due("rests of 3 and 5", x.rests(0, 1), 1);
        due("its first", x.rest(0, 1, 0), 0);
        due("no second", x.rest(0, 1, 1), -2);
        due("rests of 3 and 3", x.rests(0, 4), 2);
        due("the second of 3 and 3", x.rest(0, 4, 1), 11);
        // Of paces 1 and 1: going on alone has 1, together 0, as sitting alone: all four but none is better.
        due("rests of 1 and 1", x.rests(2, 3), 4);
        due("1 and 1, first", x.rest(2, 3, 0), 0);
        due("1 and 1, second", x.rest(2, 3, 1), 1);
        due("1 and 1, third", x.rest(2, 3, 2), 10);
        due("1 and 1, fourth", x.rest(2, 3, 3), 11);
        // Of 3 and 1: 1 may sit while 3 goes on; both sit: 3 would have more by going on.
        due("rests of 3 and 1", x.rests(0, 2), 2);
        due("3 goes on, 1 sits", x.rest(0, 2, 1), 1);
        due("1 sits, 3 goes on", x.rest(2, 0, 1), 10);
        due("rests(0, 0)", x.rests(0, 0), -1);
        due("rests(0, 5)", x.rests(0, 5), -1);
        due("rests(-1, 0)", x.rests(-1, 0), -1);
        due("rest(0, 0, 0)", x.rest(0, 0, 0), -1);
        due("rest(5, 0, 0)", x.rest(5, 0, 0), -1);
        due("rest(0, 1, -1)", x.rest(0, 1, -1), -1);
    }

    private static void quietMinutes() {
        HalfLandings x = told("call 60;");
        due("2 by 5", x.quiet(1, 0) * 10 + x.quiet(1, 1), 25);
        due("64 by 15625", x.quiet(6, 0), 64);
        due("64 by 15625", x.quiet(6, 1), 15625);
        due("quiet(0, 0)", x.quiet(0, 0), 1);
        due("quiet(0, 1)", x.quiet(0, 1), 1);
        due("quiet(7, 0)", x.quiet(7, 0), -1);
        due("quiet(-1, 0)", x.quiet(-1, 0), -1);
        due("quiet(1, 2)", x.quiet(1, 2), -1);
        due("quiet(1, -1)", x.quiet(1, -1), -1);
        x = told("call 1;");
        due("99 to the 6", x.quiet(6, 0), 941480149401L);
        due("100 to the 6", x.quiet(6, 1), 1000000000000L);
        x = told("call 100;");
        due("0 by 1", x.quiet(3, 0) * 10 + x.quiet(3, 1), 1);
        due("0 minutes", x.quiet(0, 0), 1);
        x = new HalfLandings();
        due("1 by 1", x.quiet(6, 0) * 10 + x.quiet(6, 1), 11);
    }

    private static void seenAndStruck() {
        HalfLandings x = told("bench b 1 1;walker a 0 0 1 0;rest a b 30;");
        due("see(0, ..)", x.see(0, 0, 0, true), -1);
        due("see(61, ..)", x.see(61, 0, 0, true), -1);
        due("see(1, 1, ..)", x.see(1, 1, 0, true), -1);
        due("see(1, -1, ..)", x.see(1, -1, 0, true), -1);
        due("see(1, 0, -1)", x.see(1, 0, -1, true), -1);
        due("see(1, 0, 10000)", x.see(1, 0, 10000, true), -1);
        due("strike(0) of none", x.strike(0), -1);
        due("first", x.see(60, 0, 9999, false), 0);
        due("second", x.see(1, 0, 0, true), 1);
        due("third", x.strike(1), 2);
        due("strike(-1)", x.strike(-1), -1);
        due("strike(3)", x.strike(3), -1);
        due("known(4)", x.known(4), false);
        due("known(-2)", x.known(-2), false);
        due("all are known", x.count(12), 3);
        due("known(3)", x.known(3), true);
        for (int i = 3; i < 24; i++) {
            due("number " + i, i % 2 == 0 ? x.see(1, 0, 0, true) : x.strike(0), i);
        }
        due("a 25th seen", x.see(1, 0, 0, true), -1);
        due("a 25th struck", x.strike(0), -1);
        due("24 seen", x.count(11), 24);
        due("still known by 3", x.count(12), 3);
        due("known(-1)", x.known(-1), true);
        due("known by all", x.count(12), 24);
        due("all of them are so", x.paces(0), 511);
    }

    private static void pacesSeen() {
        // Going 6 steps up to the bench takes 6, 3, 2, 2, 2, 1, 1, 1, 1 minutes by paces 1 .. 9.
        HalfLandings x = told("bench b 6 1;walker a 0 0 4 0;rest a b 30;");
        due("nothing seen", x.paces(0), 511);
        due("paces(1)", x.paces(1), -1);
        due("paces(-1)", x.paces(-1), -1);
        x.go(5);
        x.rise(0);
        x.see(2, 0, 1, true);
        due("there in minute 2, whatever was done by call", x.paces(0), 508);
        x.see(1, 0, 1, false);
        due("but not in minute 1", x.paces(0), 4 + 8 + 16);
        x.see(3, 0, 3, true);
        due("against it", x.paces(0), 0);
        due("his pace stays", x.walker(0, 3), 4);
        x.known(2);
        due("known by two", x.paces(0), 28);
        x.known(-1);
        due("strike the third", x.strike(2), 3);
        due("struck", x.paces(0), 28);
        due("strike what strikes", x.strike(3), 4);
        due("it counts again", x.paces(0), 0);
        due("strike that, too", x.strike(4), 5);
        due("so it is struck", x.paces(0), 28);
        x.known(5);
        due("by five", x.paces(0), 0);
        x.known(4);
        due("by four", x.paces(0), 28);
        x.known(1);
        due("by one", x.paces(0), 508);
        x.known(0);
        due("by none", x.paces(0), 511);
        x.known(-1);
        x.strike(0);
        due("without the first", x.paces(0), 31);
        x.strike(1);
        due("without the second", x.paces(0), 511);

        x = told("bench b 6 1;walker a 0 0 4 0;rest a b 30;call 50;seed 3;");
        x.see(60, 0, 2, false);
        due("as it goes one is called", x.paces(0), 511);
        x = told("stair 9;bench b 6 1;walker a 0 0 1 0;walker d 9 1 3 0;rest a b 30;rest d b 30;");
        x.see(6, 0, 6, true);
        due("d's own pace stays", x.paces(0), 511);
        x.see(4, 0, 4, false);
        due("d came in time, so it can't be", x.paces(1), 0);
        x.strike(0);
        due("d came later than in the first minute", x.paces(1), 3);
        x = told("bench b 2 1;bench c 4 1;walker a 0 0 4 0;rest a c 30;");
        x.see(1, 1, 1, true);
        due("another bench than the first", x.paces(0), 504);
    }

    private static int timesDrawn(int seed, int call, int minutes, int talk) {
        long state = seed;
        int times = 0;
        for (int run = 0; run < 10; run++) {
            boolean first = true;
            boolean other = true;
            int talked = 0;
            for (int minute = 0; minute < minutes; minute++) {
                talked += first && other ? 1 : 0;
                if (first) {
                    state = (state * 1103515245L + 12345L) % 2147483648L;
                    first = state / 65536 % 100 >= call;
                }
                if (other) {
                    state = (state * 1103515245L + 12345L) % 2147483648L;
                    other = state / 65536 % 100 >= call;
                }
            }
            times += talked >= talk ? 1 : 0;
        }
        return times;
    }

    private static void chances() {
        HalfLandings x = told("bench b 1 2;walker a 0 0 1 0;walker d 0 0 1 0;rest a b 30;rest d b 30;call 20;");
        due("chance(-1, ..)", x.chance(-1, 1, 0), -1);
        due("chance(0, 0, 0)", x.chance(0, 0, 0), -1);
        due("chance(0, 100, 0)", x.chance(0, 100, 0), -1);
        due("chance(0, 1, -1)", x.chance(0, 1, -1), -1);
        due("chance(0, 1, 10000)", x.chance(0, 1, 10000), -1);
        due("talk 0", x.chance(0, 99, 0), 10);
        due("talk 9999", x.chance(0, 99, 9999), 0);
        due("talk 1", x.chance(2147483647, 1, 1), 10);
        for (int seed = 1; seed <= 50; seed++) {
            due("chance(" + seed + ", 9, 3)", x.chance(seed, 9, 3), timesDrawn(seed, 20, 9, 3));
        }
        x.go(1);
        due("talk of the minute ago counts not", x.chance(5, 1, 2), 0);
        HalfLandings y = told("bench b 1 2;walker a 0 0 1 0;walker d 0 0 1 0;rest a b 30;rest d b 30;call 20;");
        x.go(20);
        y.go(21);
        due("what was drawn changes nothing", x.walker(0, 5) * 100 + x.count(6), y.walker(0, 5) * 100 + y.count(6));
        x = told("bench b 1 2;walker a 0 0 1 0;walker d 0 0 1 0;rest a b 30;rest d b 30;call 0;");
        due("never called", x.chance(7, 30, 30), 10);
    }

    private static void triedOtherwise() {
        String pair = "bench b 1 2;walker a 0 0 1 0;walker d 0 0 1 0;rest a b 5;rest d b 5;";
        HalfLandings x = told(pair + "call 70;");
        due("as it goes", x.tried(0, 0, 9), 1);
        due("nobody is called", x.tried(1, 0, 9), 5);
        due("a is out", x.tried(2, 0, 9), 0);
        due("d is out", x.tried(2, 1, 9), 0);
        due("rests are taken", x.tried(4, 0, 9), 0);
        due("three minutes, nobody called", x.tried(1, 0, 3), 3);
        due("no minute", x.tried(1, 0, 0), 0);
        due("200 minutes", x.tried(1, 0, 200), 5);
        due("tried(6, ..)", x.tried(6, 0, 9), -1);
        due("tried(-1, ..)", x.tried(-1, 0, 9), -1);
        due("tried(0, 0, 201)", x.tried(0, 0, 201), -1);
        due("tried(0, 0, -1)", x.tried(0, 0, -1), -1);
        due("tried(0, 1, 9)", x.tried(0, 1, 9), -1);
        due("tried(1, -1, 9)", x.tried(1, -1, 9), -1);
        due("tried(2, 2, 9)", x.tried(2, 2, 9), -1);
        due("tried(2, -1, 9)", x.tried(2, -1, 9), -1);
        due("all is as before", x.walker(0, 0) + x.restOf(0, 3) + x.count(5), 0);
        x = told(pair + "call 100;");
        due("nobody is called at 100", x.tried(1, 0, 9), 5);
        x = told(pair + "piano 1;");
        due("with the piano", x.tried(0, 0, 9), 0);
        due("without it", x.tried(3, 0, 9), 5);
        due("and it is there yet", x.piano(), 1);
        x = told("bench b 1 1;walker a 0 0 1 0;walker d 0 0 1 0;rest a b 5;rest d b 5;");
        due("one seat", x.tried(0, 0, 9), 0);
        due("three seats", x.tried(5, 0, 9), 5);
        due("and one seat again", x.bench(0, 1), 1);
        x = told("bench b 1 1;walker a 0 0 1 0;walker d 0 0 1 1;walker e 0 0 1 1;rest a b 9;rest d b 9;rest e b 9;");
        x.go(1);
        due("a's seat for one", x.tried(2, 0, 9), 0);
        x = told("bench b 1 2;walker a 0 0 1 0;walker d 0 0 1 0;walker e 0 0 1 3;walker f 0 0 1 3;rest a b 9;rest d b 9;rest e b 9;rest f b 9;");
        x.go(3);
        due("d's seat is e's", x.tried(2, 1, 3), 3);
        due("talk more", x.tried(0, 0, 3), 3);
    }

    private static void undoing() {
        HalfLandings x = told("stair 30;bench b 3 1;walker a 3 0 1 0;walker d 2 0 1 0;piano 20;");
        due("nothing yet", x.undo(), -1);
        x.go(1);
        due("d on b", x.sit(1, 7), 1);
        due("rise", x.rise(1), true);
        due("push", x.push(2), 22);
        due("three", x.count(13), 3);
        due("a wrong push", x.push(9), -1);
        due("a wrong rise", x.rise(1), false);
        due("a sit that can't be", x.sit(0, 5), -2);
        due("three yet", x.count(13), 3);
        due("undo the push", x.undo(), 2);
        due("the piano is back", x.piano(), 20);
        due("undo the rise", x.undo(), 1);
        due("d sits for 7", x.walker(1, 0) * 10 + x.walker(1, 4), 27);
        due("undo the sitting", x.undo(), 0);
        due("d walks", x.walker(1, 0) * 10 + x.walker(1, 4), 10);
        due("none", x.undo(), -1);
        x.push(1);
        due("go(0)", x.go(0), 1);
        due("go(201)", x.go(201), -1);
        due("can be undone yet", x.count(13), 1);
        x.go(1);
        due("not any more", x.undo(), -1);
        due("the piano stays", x.piano(), 21);
        for (int i = 0; i < 25; i++) {
            x.push(i % 2 == 0 ? 1 : -1);
        }
        due("20 at the most", x.count(13), 20);
        x.push(3);
        due("the piano", x.piano(), 25);
        for (int i = 19; i >= 0; i--) {
            due("left", x.undo(), i);
        }
        due("six pushes stay", x.piano(), 21);
        due("none again", x.undo(), -1);
        x = told("stair 60;bench b 1 1;walker a 0 0 1 0;piano 10;");
        x.go(1);
        due("a sits", x.sit(0, 9), 1);
        for (int i = 1; i <= 21; i++) {
            due("push " + i, x.push(1), 10 + i);
        }
        for (int i = 19; i >= 0; i--) {
            x.undo();
            due("the piano again", x.piano(), 11 + i);
        }
        due("no more", x.undo(), -1);
        due("a sits yet", x.walker(0, 4), 9);
        due("the piano is where it was pushed first", x.piano(), 11);
    }

    private static void images() {
        HalfLandings x = told(TWO + "piano 11;call 30;seed 12345;");
        due("no image", x.back(), -1);
        x.go(2);
        x.push(-1);
        due("keep", x.keep(), 2);
        due("keeping undoes nothing", x.count(13), 1);
        x.see(1, 0, 0, true);
        x.go(1);
        int[] first = all(x);
        x.go(5);
        x.push(1);
        due("back", x.back(), 2);
        due("nothing to undo", x.undo(), -1);
        due("the piano", x.piano(), 10);
        due("what was seen stays", x.count(11), 1);
        x.go(1);
        int[] second = all(x);
        for (int i = 0; i < first.length; i++) {
            due("the same minute again, " + i, second[i], first[i]);
        }
        due("back again", x.back(), 2);
        x.go(3);
        due("keep another", x.keep(), 5);
        x.go(3);
        due("back to that", x.back(), 5);
        x.see(1, 0, 5, true);
        x.known(1);
        x.back();
        due("seen stays", x.count(11), 2);
        due("and known", x.count(12), 1);

        x = told("bench b 1 1;walker a 0 0 1 0;rest a b 30;call 10;seed 77;");
        x.keep();
        x.go(40);
        int sat = x.walker(0, 5);
        x.back();
        x.go(40);
        due("the same numbers again", x.walker(0, 5), sat);
        x = told(TWO);
        x.keep();
        x.go(9);
        due("they met", x.walker(0, 6), 2);
        x.back();
        due("not yet", x.walker(0, 6), 0);
        due("no image is left behind a text", tell(x, TWO) * 10 + x.back(), 79);
        crowd();
    }

    private static void crowd() {
        StringBuilder all = new StringBuilder("stair 9;");
        for (int i = 0; i < 8; i++) {
            all.append("bench ").append((char) ('a' + i)).append(' ').append(8 - i).append(" 3;");
        }
        for (int i = 0; i < 6; i++) {
            all.append("walker ").append((char) ('a' + i)).append(" 0 0 ").append(i + 1).append(" 0;");
        }
        for (int i = 0; i < 12; i++) {
            all.append("rest ").append((char) ('a' + i % 6)).append(i < 6 ? " h 2;" : " a 3;");
        }
        HalfLandings x = told(all.toString());
        // Three sit on h (step 1) for two minutes, the others go on: 4, 5 and 6 steps to nowhere, then to a (step 8).
        x.go(1);
        due("three sit on h", x.bench(7, 3), 7);
        due("none is free", x.bench(7, 4), 0);
        due("the fourth went on", x.walker(3, 1), 4);
        due("three pairs", x.count(6), 3);
        x.keep();
        x.go(1);
        due("three sit on a", x.bench(0, 3), 56);
        due("six pairs", x.count(6), 9);
        due("six are worn", x.count(9), 9);
        due("six rests are taken", x.count(10), 6);
        due("back", x.back(), 1);
        due("three rests were", x.count(10), 3);
        due("six sit in the next minute", x.ahead(1, 0, 0), 6);
        due("all are out at last", x.ahead(60, 3, 0), 6);
        due("the last one's pace", x.paces(5), 511);
        tell(x, all + "piano 5;");
        x.go(1);
        due("the piano goes up", x.push(3), 8);
        due("it is there", x.carry(), 0);
        due("and down again", x.push(-3), 5);
        // The fourth went to 4 and so stands below the piano, as the others do.
        due("but no further", x.push(-1), -2);
    }

    private static int[] all(HalfLandings x) {
        int[] row = new int[40];
        int at = 0;
        for (int what = 0; what <= 6; what++) {
            row[at++] = x.walker(0, what);
            row[at++] = x.walker(1, what);
        }
        for (int bench = 0; bench < 3; bench++) {
            row[at++] = x.bench(bench, 2);
            row[at++] = x.bench(bench, 3);
        }
        row[at++] = x.restOf(0, 3);
        row[at++] = x.restOf(1, 3);
        row[at++] = x.piano();
        for (int what = 5; what <= 10; what++) {
            row[at++] = x.count(what);
        }
        return row;
    }

    private static void counts() {
        HalfLandings x = told(TWO + "law wear pace*2;law talk full*10;");
        x.go(4);
        x.rise(0);
        x.see(1, 0, 0, true);
        x.see(1, 0, 0, true);
        x.known(1);
        int[] want = {3, 2, 2, 12, 6, 4, 40, 0, 0, 30, 2, 2, 1, 1};
        for (int what = 0; what < want.length; what++) {
            due("count(" + what + ")", x.count(what), want[what]);
        }
        x.undo();
        due("one sits", x.count(8), 1);
        x.go(2);
        due("one is out", x.count(7), 1);
        due("count(14)", x.count(14), -1);
        due("count(-1)", x.count(-1), -1);
    }
}
