/** Promises 1 to 5: the tape, the text, its faults, names. */
final class EdgesOfTexts extends Check {
    private static final int BLANKS = 0x20202020;
    private static final String PAIR = "bench b 1 2;walker a 0 0 1 0;walker d 0 0 1 0;rest a b 30;rest d b 30;";
    private static final String BENCH_AND_WALKER = "bench b 1 1;walker w 0 0 1 0;";

    private static int feedBlanks(HalfLandings x) {
        return x.feed(BLANKS, BLANKS, BLANKS, BLANKS, BLANKS);
    }

    @Says("A TEXT without LINES; an empty TAPE.")
    static void promise1_newObject_nothingIsTold() {
        HalfLandings x = new HalfLandings();
        for (int what = 0; what <= 13; what++) {
            due("count(" + what + ")", x.count(what), what == 3 ? 20 : 0);
        }
        due("piano()", x.piano(), -2);
        due("quiet(1, 0)", x.quiet(1, 0), 1);
        due("named(0, 0)", x.named(0, 0), NONE);
        due("named(1, 0)", x.named(1, 0), NONE);
        due("back()", x.back(), NONE);
        due("walker(0, 0)", thrown(x, 0, 0), 1);
        due("text(1)", x.text(1), -2);
        due("feed", feedBlanks(x), 20);
    }

    @Says("A TEXT without LINES; an empty TAPE.")
    static void promise1_newObject_sharesNothingWithAnother() {
        HalfLandings x = told(PAIR);
        feedBlanks(x);
        x.go(3);
        HalfLandings y = new HalfLandings();
        due("walkers of another", y.count(1), 0);
        due("minute of another", y.count(5), 0);
        due("tape of another", feedBlanks(y), 20);
        due("walkers of the first", x.count(1), 2);
    }

    @Says("Twenty bytes come behind the TAPE, four of each number, the highest first: how many it has;")
    static void promise2_feed_theHighestByteFirst() {
        HalfLandings x = new HalfLandings();
        due("feed of 'benc' 'h ab' 'cdef' ' 1 1' ';   '",
            x.feed(0x62656e63, 0x68206162, 0x63646566, 0x20312031, 0x3b202020), 20);
        due("feed of ' ben' 'ch z' ' 2 3' ';   ' '    '",
            x.feed(0x2062656e, 0x6368207a, 0x20322033, 0x3b202020, 0x20202020), 40);
        due("text(40)", x.text(40), 2);
        due("the first's name", x.named(0, code("abcdef")), 0);
        due("the second's seats", x.bench(x.named(0, code("z")), 1), 3);
    }

    @Says("Twenty bytes come behind the TAPE, four of each number, the highest first: how many it has;")
    static void promise2_feed_anyBytes() {
        HalfLandings x = new HalfLandings();
        due("bytes 255 and 0", x.feed(-1, 0, Integer.MIN_VALUE, Integer.MAX_VALUE, BLANKS), 20);
        due("they are on the tape", x.text(20), NONE);
        due("the first is no token", x.fault(1), 0);
        x.feed(BLANKS, 0x2020200a, 0x20202080, BLANKS, BLANKS);
        due("128 is no blank", x.text(20), NONE);
        due("its place", x.fault(1), 11);
    }

    @Says("NONE, and none come, if it would have more than 700.")
    static void promise2_feed_sevenHundredAreTaken() {
        HalfLandings x = new HalfLandings();
        for (int i = 1; i <= 34; i++) {
            due("feed " + i, feedBlanks(x), 20 * i);
        }
        due("the 35th", x.feed(BLANKS, BLANKS, BLANKS, 0x63616c6c, 0x20353b20), 700);
        due("its line is the text's last", x.text(700), 1);
        due("call 5", x.quiet(1, 0), 19);
    }

    @Says("NONE, and none come, if it would have more than 700.")
    static void promise2_feed_noneComesBeyond700() {
        HalfLandings x = new HalfLandings();
        for (int i = 1; i <= 35; i++) {
            feedBlanks(x);
        }
        for (int i = 0; i < 3; i++) {
            due("feed beyond 700", x.feed(-1, -1, -1, -1, -1), NONE);
        }
        due("text(701)", x.text(701), -2);
        due("text(720)", x.text(720), -2);
        due("700 blanks yet", x.text(700), 0);
        due("room again", feedBlanks(x), 20);
    }

    @Says("The TAPE's first n bytes (it is empty then) are the TEXT")
    static void promise3_text_onlyTheFirstBytes() {
        HalfLandings x = new HalfLandings();
        feedAll(x, "call 50;seed 7;piano 3;");
        due("text(8)", x.text(8), 1);
        due("call 50", x.quiet(1, 1), 2);
        due("no piano", x.piano(), -2);
        feedAll(x, "call 500");
        due("a number cut short", x.text(7), NONE);
        due("place", x.fault(1), 7);
        feedAll(x, "law sits 1<=2;");
        due("a sign cut short", x.text(11), NONE);
        due("place", x.fault(1), 11);
        feedAll(x, "laws");
        due("a word cut short", x.text(3), NONE);
        due("place", x.fault(1), 3);
        feedAll(x, "call 5;    piano");
        due("blanks cut short", x.text(9), 1);
    }

    @Says({"The TAPE's first n bytes (it is empty then) are the TEXT", "or can't stand there (the length, if more must come;"})
    static void promise3_text_allOfAFullTape() {
        for (String end : new String[] {"law", "call 5", "law sits 1<", "call 5;law sits 1>", "call"}) {
            HalfLandings x = new HalfLandings();
            due("text of 700 that ends with " + end, tell(x, times(" ", 700 - end.length()) + end), NONE);
            due("fault(0)", x.fault(0), 1);
            due("fault(1)", x.fault(1), 700);
        }
        HalfLandings y = new HalfLandings();
        due("the last byte is a ';'", tell(y, times(" ", 692) + "call 50;"), 1);
        due("the last byte is a blank", tell(y, "call 50;" + times("\n", 692)), 1);
    }

    @Says("The TAPE's first n bytes (it is empty then) are the TEXT")
    static void promise3_text_theTapeIsEmptyThen() {
        HalfLandings x = new HalfLandings();
        feedAll(x, "call 50;seed 7;piano 3;");
        due("text(8)", x.text(8), 1);
        due("text(1) then", x.text(1), -2);
        due("feed then", feedBlanks(x), 20);
        due("text(0) of twenty", x.text(0), 0);
        due("text(1) behind text(0)", x.text(1), -2);
        feedAll(x, "x");
        due("a fault", x.text(1), NONE);
        due("text(1) behind a fault", x.text(1), -2);
        due("feed behind a fault", feedBlanks(x), 20);
    }

    @Says("The TAPE's first n bytes (it is empty then) are the TEXT")
    static void promise3_text_olderBytesAreGone() {
        HalfLandings x = new HalfLandings();
        feedAll(x, "call 50;piano 3;seed 7;law sits 1;");
        x.text(8);
        feedAll(x, "seed 1;");
        due("blanks, not the older bytes", x.text(20), 1);
        due("no piano", x.piano(), -2);
    }

    @Says({"(MINUTE 0, all WAIT, TALK 0, nothing WORN, SEEN, all KNOWN, no IMAGE, nothing to undo then): how many LINES;",
        "A TEXT: { LINE ';' }."})
    static void promise3_text_allBeginsAgain() {
        HalfLandings x = told(PAIR);
        x.go(5);
        x.rise(0);
        x.see(1, 0, 0, true);
        x.known(0);
        x.keep();
        due("the same text", tell(x, PAIR), 5);
        for (int what = 5; what <= 13; what++) {
            due("count(" + what + ")", x.count(what), 0);
        }
        for (int walker = 0; walker < 2; walker++) {
            int[] want = {0, 0, 0, 1, 0, 0, 0};
            for (int what = 0; what <= 6; what++) {
                due("walker(" + walker + ", " + what + ")", x.walker(walker, what), want[what]);
            }
        }
        due("worn", x.bench(0, 2), 0);
        due("who sits", x.bench(0, 3), 0);
        due("rest", x.restOf(0, 3), 0);
        due("undo()", x.undo(), NONE);
        due("back()", x.back(), NONE);
        due("see", x.see(1, 0, 9999, true), 0);
        due("all are known: it counts", x.paces(0), 0);
    }

    @Says({"(MINUTE 0, all WAIT, TALK 0, nothing WORN, SEEN, all KNOWN, no IMAGE, nothing to undo then): how many LINES;",
        "seed: 0 .. 99999 (0)."})
    static void promise3_text_numbersBeginAgain() {
        String called = PAIR + "call 9;seed 99999;";
        HalfLandings x = told(called);
        x.go(40);
        int sat = x.walker(0, 5) * 100 + x.walker(1, 5);
        tell(x, called);
        x.go(40);
        due("the same minutes again", x.walker(0, 5) * 100 + x.walker(1, 5), sat);
        HalfLandings y = told(PAIR + "call 9;seed 0;");
        tell(x, PAIR + "call 9;");
        x.go(40);
        y.go(40);
        due("without a seed it is 0", x.walker(0, 5) * 100 + x.walker(1, 5), y.walker(0, 5) * 100 + y.walker(1, 5));
    }

    @Says({"The TAPE's first n bytes (it is empty then) are the TEXT", "how many LINES;"})
    static void promise3_text_nothingOfOlderTexts() {
        HalfLandings x = new HalfLandings();
        String all = "stair 40;" + PAIR + "piano 11;call 40;seed 3;law sits 1;law talk 2*3;law wear 1+1;";
        for (int i = 0; i < 3; i++) {
            due("a text with all lines", tell(x, all), 12);
            due("its knots", x.count(4), 7);
            due("a law told but in part", tell(x, "stair 9;bench z 3 1;call 5;law sits (not (1*(2+"), NONE);
            due("its laws yet", x.law(0, 0, 0) * 100 + x.law(1, 0, 0) * 10 + x.law(2, 0, 0), 162);
        }
        for (int i = 0; i < 4; i++) {
            tell(x, "bench b 3 1;walker a 0 0 1 0;law talk not not 1" + times("+1", 30) + ";law wear 5;");
            due("64 knots, again and again", x.law(1, 0, 0) * 10 + x.law(2, 0, 0), 15);
        }
        for (int i = 0; i < 2; i++) {
            due("no lines", x.text(0), 0);
            for (int what = 0; what <= 13; what++) {
                due("count(" + what + ")", x.count(what), what == 3 ? 20 : 0);
            }
            due("piano", x.piano(), -2);
            due("call", x.quiet(1, 0), 1);
            due("name", x.named(0, code("b")), NONE);
            due("a bench where one was", tell(x, "bench c 1 1;walker w 0 0 1 0;"), 2);
            due("the older law", x.law(0, 0, 0), ERROR);
        }
    }

    @Says({"how many LINES;", "A TEXT: { LINE ';' }."})
    static void promise3_text_withoutLines() {
        lines("", 0);
        lines(" \n\n ", 0);
        HalfLandings x = told(PAIR + "piano 5;call 9;seed 4;law sits 1;");
        due("text(0)", x.text(0), 0);
        due("benches", x.count(0), 0);
        due("walkers", x.count(1), 0);
        due("rests", x.count(2), 0);
        due("knots", x.count(4), 0);
        due("piano", x.piano(), -2);
        due("call", x.quiet(1, 0), 1);
        fault("^;", 1);
        fault("call 1;^;", 1);
        fault("call 1^", 1);
        fault("call 1;seed 1^", 1);
    }

    @Says("NONE with a FAULT, all stays;")
    static void promise3_text_allStaysWithAFault() {
        HalfLandings x = told(PAIR + "piano 9;call 10;law talk 3;seed " + seedOfNoCall(10, 4) + ";");
        x.go(2);
        x.keep();
        x.see(1, 0, 1, true);
        x.see(1, 0, 1, false);
        x.known(1);
        x.push(1);
        due("a fault behind many lines",
            tell(x, "stair 40;bench z 9 1;walker z 0 0 1 0;rest z z 1;piano 1;call 1;seed 5;law talk 9;law wear 9;#"), NONE);
        int[] want = {1, 2, 2, 20, 1, 2, 6, 0, 2, 4, 2, 2, 1, 1};
        for (int what = 0; what <= 13; what++) {
            due("count(" + what + ")", x.count(what), want[what]);
        }
        due("names", x.named(0, code("b")) + x.named(1, code("d")), 1);
        due("no new names", x.named(0, code("z")), NONE);
        due("piano", x.piano(), 10);
        due("call", x.quiet(1, 0), 9);
        due("law", x.law(1, 0, 0), 3);
        due("no new law", x.law(2, 0, 0), ERROR);
        due("undo", x.undo(), 0);
        due("image", x.back(), 2);
    }

    @Says("-2, and the TAPE stays: there are not so many, n is below 0.")
    static void promise3_text_notSoMany() {
        HalfLandings x = new HalfLandings();
        due("text(1) of none", x.text(1), -2);
        feedAll(x, "call 50;");
        due("text(21)", x.text(21), -2);
        due("text of the greatest number", x.text(Integer.MAX_VALUE), -2);
        due("the tape stays", feedBlanks(x), 40);
        due("text(40)", x.text(40), 1);
        due("call 50", x.quiet(1, 1), 2);
    }

    @Says("-2, and the TAPE stays: there are not so many, n is below 0.")
    static void promise3_text_below0() {
        HalfLandings x = told("call 50;");
        due("text(-1) of none", x.text(-1), -2);
        feedAll(x, "call 0;");
        due("text(-1)", x.text(-1), -2);
        due("text of the least number", x.text(Integer.MIN_VALUE), -2);
        due("the older text stays", x.quiet(1, 1), 2);
        due("the tape stays", x.text(20), 1);
        due("call 0", x.quiet(1, 1), 1);
    }

    @Says({"Words: small letters in a row; W: one of 1 .. 6 letters, none of those of the language; N: digits.",
        "(a word of more than 6 letters that is none of the language, too)"})
    static void promise3_text_namesOf1To6Letters() {
        lines("bench a 1 1;bench z 2 1;", 2);
        lines("bench abcdef 1 1;bench zzzzzz 2 1;", 2);
        fault("bench ^abcdefg 1 1;", 1);
        fault("bench ^aaaaaaaaaaaaaaaaaaaaaaaaaaaaaaaaaaaaaaa 1 1;", 1);
        fault("^walkers 1;", 1);
        fault("bench  ^1 1;", 1);
        fault("bench ^A 1 1;", 1);
        fault("bench a^B 1 1;", 1);
        fault("bench ^7 1 1;", 1);
        fault("walker ^abcdefg 0 0 1 0;", 1);
        fault(BENCH_AND_WALKER + "rest ^abcdefg b 1;", 1);
    }

    @Says("W: one of 1 .. 6 letters, none of those of the language;")
    static void promise3_text_namesOfTheLanguage() {
        String[] words = {"stair", "bench", "walker", "rest", "piano", "call", "seed", "law", "sits", "talk", "wear",
            "or", "and", "not", "pace", "up", "step", "worn", "full", "sat", "minute"};
        for (String word : words) {
            fault("bench ^" + word + " 1 1;", 1);
            fault("walker ^" + word + " 0 0 1 0;", 1);
        }
        for (String word : new String[] {"e", "n", "w", "top", "out", "rule", "line", "down", "met", "ups", "an", "wal"}) {
            lines("bench " + word + " 1 1;walker " + word + " 0 0 1 0;", 2);
        }
    }

    @Says({"Words: small letters in a row;", "N: digits.", "Blanks 10, 32."})
    static void promise3_text_blanks() {
        lines("\n call\n50 ;\n", 1);
        lines("bench a1 1;", 1);
        lines("bench\na\n1\n1\n;walker b0 0 1 0;", 2);
        lines("law sits(1)and(2)or not(3);", 1);
        fault("bench a 11^;", 1);
        fault("call^\t5;", 1);
        fault("call^\r5;", 1);
        fault("call^\0005;", 1);
        fault("call 5;^" + (char) 160, 1);
        fault("^ca ll 5;", 1);
        fault("call 5 ^0;", 1);
    }

    @Says({"LINE: stair N | bench W N N | walker W N N N N | rest W W N | piano N | call N | seed N | law RULE E.",
        "or can't stand there (the length, if more must come;"})
    static void promise3_text_linesTooShort() {
        fault("stair^;", 1);
        fault("bench^;", 1);
        fault("bench a^;", 1);
        fault("bench a 1^;", 1);
        fault("walker^;", 1);
        fault("walker a^;", 1);
        fault("walker a 0^;", 1);
        fault("walker a 0 0^;", 1);
        fault("walker a 0 0 1^;", 1);
        fault(BENCH_AND_WALKER + "rest^;", 1);
        fault(BENCH_AND_WALKER + "rest w^;", 1);
        fault(BENCH_AND_WALKER + "rest w b^;", 1);
        fault("piano^;", 1);
        fault("call^;", 1);
        fault("seed^;", 1);
        fault("law^;", 1);
        fault("law sits^;", 1);
    }

    @Says("LINE: stair N | bench W N N | walker W N N N N | rest W W N | piano N | call N | seed N | law RULE E.")
    static void promise3_text_linesTooLong() {
        fault("stair 5 ^5;", 1);
        fault("bench a 1 1 ^1;", 1);
        fault("walker a 0 0 1 0 ^0;", 1);
        fault(BENCH_AND_WALKER + "rest w b 1 ^1;", 1);
        fault("piano 1 ^1;", 1);
        fault("call 1 ^1;", 1);
        fault("seed 1 ^1;", 1);
        fault("law sits 1 ^1;", 1);
        fault("call 1 ^seed 1;", 1);
    }

    @Says({"LINE: stair N | bench W N N | walker W N N N N | rest W W N | piano N | call N | seed N | law RULE E.",
        "RULE: sits | talk | wear."})
    static void promise3_text_wrongKindsOfTokens() {
        fault("^5;", 1);
        fault("^a 5;", 1);
        fault("^sits 5;", 1);
        fault("^not 5;", 1);
        fault("^(call 5);", 1);
        for (String sign : new String[] {";", "(", ")", "+", "-", "*", "/", "<", "<=", "=", "<>", ">=", ">"}) {
            fault("^" + sign, 1);
            fault("call 5;^" + sign, 1);
            fault("call ^" + sign + "5;", 1);
            fault("bench ^" + sign + " 1 1;", 1);
            fault("law ^" + sign + " 1;", 1);
            fault("law sits ^" + sign.replace("(", ")") + "1;", 1);
        }
        fault("stair ^a;", 1);
        fault("bench a ^b 1;", 1);
        fault("bench a 1 ^b;", 1);
        fault("walker a ^b 0 1 0;", 1);
        fault("walker a 0 ^up 1 0;", 1);
        fault("walker a 0 0 ^b 0;", 1);
        fault("walker a 0 0 1 ^b;", 1);
        fault(BENCH_AND_WALKER + "rest ^1 b 1;", 1);
        fault(BENCH_AND_WALKER + "rest w ^1 1;", 1);
        fault(BENCH_AND_WALKER + "rest w b ^b;", 1);
        fault("piano ^a;", 1);
        fault("call ^-1;", 1);
        fault("seed ^+1;", 1);
        fault("law ^1;", 1);
        fault("law ^pace 1;", 1);
        fault("law ^sit 1;", 1);
        fault("law ^law 1;", 1);
        fault("law ^seed 1;", 1);
        fault("law ^or 1;", 1);
    }

    @Says({"stair: its TOP 2 .. 60 (20 without; only as the first LINE).", "a number beyond what is said"})
    static void promise3_text_stairOf2To60() {
        fault("stair ^0;", 2);
        fault("stair ^1;", 2);
        lines("stair 2;", 1);
        lines("stair 60;", 1);
        fault("stair ^61;", 2);
        due("2", told("stair 2;").count(3), 2);
        due("60", told("stair 60;").count(3), 60);
        due("20 without", told("call 1;").count(3), 20);
        HalfLandings x = told("stair 60;");
        tell(x, "seed 1;");
        due("20 again", x.count(3), 20);
    }

    @Says({"stair: its TOP 2 .. 60 (20 without; only as the first LINE).", "a stair that isn't the first LINE)."})
    static void promise3_text_stairOnlyFirst() {
        lines("stair 5;call 1;", 2);
        lines(" \n stair 5;", 1);
        fault("call 1;^stair 5;", 1);
        fault("stair 5;^stair 5;", 1);
        fault("stair 5;^stair 99;", 1);
        fault("bench a 1 1;^stair", 1);
    }

    @Says({"BENCHES, at most 8: a STEP 1 .. TOP less 1 (one BENCH there at most), SEATS 1 .. 3.", "a number beyond what is said"})
    static void promise3_text_benchNumbers() {
        fault("bench a ^0 1;", 2);
        lines("bench a 1 1;bench b 19 3;", 2);
        fault("bench a ^20 1;", 2);
        lines("stair 60;bench a 59 1;", 2);
        fault("stair 60;bench a ^60 1;", 2);
        lines("stair 2;bench a 1 1;", 2);
        fault("stair 2;bench a ^2 1;", 2);
        fault("bench a 1 ^0;", 2);
        lines("bench a 1 1;bench b 2 2;bench c 3 3;", 3);
        fault("bench a 1 ^4;", 2);
    }

    @Says({"BENCHES, at most 8:", "a ninth bench and so on (at the word of the LINE)"})
    static void promise3_text_eightBenches() {
        String eight = counted("bench @ # 1;", 8);
        lines(eight, 8);
        due("count(0)", told(eight).count(0), 8);
        due("the last one", told(eight).bench(7, 0), 8);
        fault(eight + "^bench i 9 1;", 2);
        fault(eight + "^bench", 2);
        fault(eight + "call 1; \n^bench a 1 1;", 2);
    }

    @Says({"WALKERS, at most 6: a STEP 0 .. TOP, 0 (UP) or 1 (DOWN), a PACE 1 .. 9, a MINUTE 0 .. 99 at which he begins.",
        "a number beyond what is said"})
    static void promise3_text_walkerNumbers() {
        lines("walker a 0 0 1 0;walker b 20 1 9 99;", 2);
        fault("walker a ^21 0 1 0;", 2);
        lines("stair 2;walker a 2 0 1 0;", 2);
        fault("stair 2;walker a ^3 0 1 0;", 2);
        lines("stair 60;walker a 60 0 1 0;", 2);
        fault("stair 60;walker a ^61 0 1 0;", 2);
        fault("walker a 0 ^2 1 0;", 2);
        fault("walker a 0 0 ^0 0;", 2);
        fault("walker a 0 0 ^10 0;", 2);
        fault("walker a 0 0 1 ^100;", 2);
    }

    @Says({"WALKERS, at most 6:", "a ninth bench and so on (at the word of the LINE)"})
    static void promise3_text_sixWalkers() {
        String six = counted("walker @ # 0 # #;", 6);
        lines(six, 6);
        due("count(1)", told(six).count(1), 6);
        due("the last one", told(six).walker(5, 3), 6);
        fault(six + "^walker g 0 0 1 0;", 2);
        fault(six + "^walker", 2);
    }

    @Says({"RESTS, at most 12: a WALKER at a BENCH for MINUTES 1 .. 30.", "a number beyond what is said"})
    static void promise3_text_restNumbers() {
        fault(BENCH_AND_WALKER + "rest w b ^0;", 2);
        lines(BENCH_AND_WALKER + "rest w b 1;rest w b 30;", 4);
        fault(BENCH_AND_WALKER + "rest w b ^31;", 2);
    }

    @Says({"RESTS, at most 12:", "a ninth bench and so on (at the word of the LINE)"})
    static void promise3_text_twelveRests() {
        String twelve = BENCH_AND_WALKER + counted("rest w b #;", 12);
        lines(twelve, 14);
        due("count(2)", told(twelve).count(2), 12);
        due("the last one", told(twelve).restOf(11, 2), 12);
        fault(twelve + "^rest w b 1;", 2);
        fault(twelve + "^rest x", 2);
    }

    @Says({"piano: a STEP 1 .. TOP less 1 (none without).", "a number beyond what is said"})
    static void promise3_text_pianoNumbers() {
        fault("piano ^0;", 2);
        lines("piano 1;", 1);
        lines("piano 19;", 1);
        fault("piano ^20;", 2);
        lines("stair 2;piano 1;", 2);
        fault("stair 2;piano ^2;", 2);
        lines("stair 60;piano 59;", 2);
        fault("stair 60;piano ^60;", 2);
        due("none without", told("stair 60;").piano(), -2);
    }

    @Says({"call: of a hundred 0 .. 100 (0).", "a number beyond what is said"})
    static void promise3_text_callNumbers() {
        lines("call 0;", 1);
        lines("call 100;", 1);
        fault("call ^101;", 2);
        due("call 100", told("call 100;").quiet(1, 0), 0);
        due("0 without", told("seed 1;").quiet(1, 0), 1);
    }

    @Says({"seed: 0 .. 99999 (0).", "a number beyond what is said"})
    static void promise3_text_seedNumbers() {
        lines("seed 0;", 1);
        lines("seed 99999;", 1);
        fault("seed ^100000;", 2);
    }

    @Says({"N: digits.", "a number beyond what is said"})
    static void promise3_text_numbersOfManyDigits() {
        lines("stair 00000000000000000000000000000002;", 1);
        due("leading digits 0", told("stair 00000000000000000000000000000060;").count(3), 60);
        fault("seed ^4294967296;", 2);
        fault("seed ^4294967301;", 2);
        fault("seed ^18446744073709551617;", 2);
        fault("seed ^" + times("9", 300) + ";", 2);
        fault("stair ^2147483650;", 2);
        fault("law sits ^4294967297;", 2);
    }

    @Says({"All numbered as they come; BENCHES, WALKERS have names of their kind.", "a name of its kind (at W)"})
    static void promise3_text_namesOfTheirKind() {
        lines("bench a 1 1;walker a 0 0 1 0;rest a a 1;", 3);
        fault("bench a 1 1;bench ^a 2 1;", 3);
        fault("bench a 1 1;bench ^a 1 9;", 3);
        fault("walker a 0 0 1 0;walker ^a 5 0 1 0;", 3);
        fault("walker a 0 0 1 0;bench a 1 1;walker ^a", 3);
        lines("bench a 1 1;bench aa 2 1;bench ab 3 1;", 3);
        fault("bench abcdef 1 1;bench abcdeg 2 1;bench ^abcdef 3 1;", 3);
    }

    @Says("All numbered as they come;")
    static void promise3_text_numberedAsTheyCome() {
        HalfLandings x = told("walker z 0 0 1 0;bench z 9 1;walker a 0 0 2 0;bench a 4 2;rest a z 7;rest z a 8;");
        due("bench(0, 0)", x.bench(0, 0), 9);
        due("bench(1, 0)", x.bench(1, 0), 4);
        due("walker(0, 3)", x.walker(0, 3), 1);
        due("walker(1, 3)", x.walker(1, 3), 2);
        due("restOf(0, 2)", x.restOf(0, 2), 7);
        due("restOf(1, 2)", x.restOf(1, 2), 8);
    }

    @Says({"(one BENCH there at most)", "a BENCH at a STEP (at it)"})
    static void promise3_text_oneBenchAtAStep() {
        fault("bench a 1 1;bench b ^1 1;", 3);
        fault("bench a 5 1;bench b 6 1;bench c ^05 1;", 3);
        lines("bench a 5 1;walker b 5 0 1 0;piano 5;", 3);
    }

    @Says("piano, call, seed (at the word)")
    static void promise3_text_toldButOnce() {
        fault("piano 1;^piano 2;", 3);
        fault("piano 1;^piano", 3);
        fault("call 1;seed 1;^call 1;", 3);
        fault("call 0;^call 0;", 3);
        fault("seed 0;^seed x", 3);
    }

    @Says("a law of its RULE (at RULE).")
    static void promise3_text_aLawOfEachRule() {
        lines("law sits 1;law talk 1;law wear 1;", 3);
        fault("law sits 1;law ^sits 1;", 3);
        fault("law talk 1;law wear 1;law ^talk 1;", 3);
        fault("law wear 1;law ^wear", 3);
    }

    @Says("4 a BENCH, a WALKER that isn't told ahead (at W).")
    static void promise3_text_toldAhead() {
        fault("rest ^w b 1;", 4);
        fault("walker w 0 0 1 0;rest w ^b 1;", 4);
        fault("bench b 1 1;rest ^w b 1;", 4);
        fault("rest ^w b 1;walker w 0 0 1 0;bench b 1 1;", 4);
        fault("walker w 0 0 1 0;rest w ^b 1;bench b 1 1;", 4);
        fault(BENCH_AND_WALKER + "rest ^b w 1;", 4);
        fault(BENCH_AND_WALKER + "rest w ^w 1;", 4);
        fault(BENCH_AND_WALKER + "rest ^ww b 1;", 4);
        fault(BENCH_AND_WALKER + "rest ^x", 4);
    }

    @Says({"E: A { or A }. A: B { and B }. B: not B | C.", "P: N | NAME | '(' E ')'",
        "NAME: pace up step worn full sat minute.", "N of E 0 .. 9999."})
    static void promise3_text_partsOfE() {
        lines("law sits 0;", 1);
        lines("law sits 9999;", 1);
        fault("law sits ^10000;", 2);
        fault("law sits 1+^10000;", 2);
        lines("law sits pace+up+step+worn+full+sat+minute;", 1);
        fault("law sits ^top;", 1);
        fault("law sits ^talk;", 1);
        fault("law sits ^-1;", 1);
        fault("law sits 1^(2);", 1);
        fault("law sits (^);", 1);
        fault("law sits (1^;", 1);
        fault("law sits 1^);", 1);
        fault("law sits ^or 1;", 1);
        fault("law sits 1 and^;", 1);
        fault("law sits 1 or ^and 2;", 1);
        lines("law sits not not not 1 and not 2 or not (not 3);", 1);
        fault("law sits not^;", 1);
        fault("law sits 1 ^not 2;", 1);
        lines("law sits 1+(not 2);", 1);
        lines("law sits 1<(not 2);", 1);
        lines("law sits 2*(not (not 2)+1);", 1);
    }

    @Says({"C: S [ ( < | <= | = | <> | >= | > ) S ].", "S: T { ( + | - ) T }. T: P { ( * | / ) P }."})
    static void promise3_text_oneComparison() {
        for (String sign : new String[] {"<", "<=", "=", "<>", ">=", ">"}) {
            lines("law sits 1" + sign + "2;", 1);
            fault("law sits 1" + sign + "2^" + sign + "3;", 1);
            fault("law sits 1+1" + sign + "2*2^" + sign + "3;", 1);
            fault("law sits not 1" + sign + "2^" + sign + "3;", 1);
            lines("law sits (1" + sign + "2)" + sign + "(2" + sign + "3);", 1);
            lines("law sits 1" + sign + "2 and 2" + sign + "3 or 3" + sign + "4;", 1);
            fault("law sits 1" + sign + "^not 2;", 1);
            fault("law sits 1" + sign + "^;", 1);
            fault("law sits ^" + sign + "1;", 1);
        }
        for (String sign : new String[] {"+", "-", "*", "/"}) {
            fault("law sits 1" + sign + "^not 2;", 1);
            fault("law sits 1" + sign + "^" + sign + "2;", 1);
            fault("law sits 1" + sign + "^;", 1);
        }
    }

    @Says("A = (or > behind <) right behind < or > belongs to it.")
    static void promise3_text_signsOfTwo() {
        fault("law sits 1< ^=2;", 1);
        fault("law sits 1> ^=2;", 1);
        fault("law sits 1< ^>2;", 1);
        fault("law sits 1<\n^=2;", 1);
        fault("law sits 1>^>2;", 1);
        fault("law sits 1>^<2;", 1);
        fault("law sits 1<^<2;", 1);
        fault("law sits 1=^<2;", 1);
        fault("law sits 1=^>2;", 1);
        fault("law sits 1=^=2;", 1);
        fault("law sits 1<=^=2;", 1);
        fault("law sits 1<=^>2;", 1);
        fault("law sits 1<>^=2;", 1);
        fault("law sits 1>=^=2;", 1);
    }

    @Says("a ninth '(' open")
    static void promise3_text_eightOpen() {
        lines("law sits " + times("(", 8) + "1" + times(")", 8) + ";", 1);
        fault("law sits " + times("(", 8) + "^(1", 2);
        fault("law sits " + times("(", 7) + "1+(2)*^x", 1);
        fault("law sits " + times("(", 7) + "1+(2)*(3+^(", 2);
        lines("law sits " + times("(1)+", 20) + "1;", 1);
        lines("law sits " + times("(", 8) + times("not ", 63) + "1" + times(")", 8) + ";", 1);
        lines("law sits " + times("(", 8) + "1" + times(")", 8) + ";law talk " + times("(", 8) + "1" + times(")", 8) + ";", 2);
        fault("law sits 1^" + times("(", 9), 1);
    }

    @Says("a 65th KNOT of all E (N, NAMES, signs, not, and, or: one each).")
    static void promise3_text_sixtyFourKnots() {
        String sum = "1" + times("+1", 31);
        due("63 and not", told("law sits not " + sum + ";").count(4), 64);
        fault("law sits not " + sum + "^+1;", 2);
        fault("law sits not " + sum + "^<1;", 2);
        fault("law sits not " + sum + " ^and 1;", 2);
        fault("law sits not " + sum + " ^or 1;", 2);
        fault("law sits " + sum + "+^1;", 2);
        fault("law sits " + sum + "+^pace;", 2);
        fault("law sits " + sum + " and ^not 1;", 2);
        fault("law sits " + sum + ";law talk 1^+1;", 2);
        lines("law sits " + sum + ";law talk 1;", 2);
        lines("law sits " + sum + ";law talk ((((1))));", 2);
        fault("law sits " + sum + ";law talk 1;law wear ^1;", 2);
    }

    @Says("a 65th KNOT of all E (N, NAMES, signs, not, and, or: one each).")
    static void promise3_text_oneKnotEach() {
        due("N", told("law sits 9999;").count(4), 1);
        due("a NAME", told("law sits minute;").count(4), 1);
        due("a sign of two", told("law sits 1<=2;").count(4), 3);
        due("not", told("law sits not not 2;").count(4), 3);
        due("and, or", told("law sits 1 and 2 or 3;").count(4), 5);
        due("no '(', no ')'", told("law sits ((1));").count(4), 1);
        due("of all E", told("law sits 1+1;law talk up;law wear not up;").count(4), 6);
    }

    @Says({"Of the latest text() that was not -2, what 0: its FAULT (0), 1: its place (NONE without).",
        "FAULTS, the first along the text"})
    static void promise4_fault_ofTheLatestText() {
        HalfLandings x = new HalfLandings();
        due("fault(0) ahead of all", x.fault(0), 0);
        due("fault(1) ahead of all", x.fault(1), NONE);
        tell(x, "call 101;seed 1;seed 1;");
        due("fault(0)", x.fault(0), 2);
        due("fault(1)", x.fault(1), 5);
        due("text(1)", x.text(1), -2);
        due("text(-1)", x.text(-1), -2);
        due("fault(0) behind -2", x.fault(0), 2);
        due("fault(1) behind -2", x.fault(1), 5);
        tell(x, "x");
        due("fault(0) of the next", x.fault(0), 1);
        due("fault(1) of the next", x.fault(1), 0);
        x.text(0);
        due("fault(0) without", x.fault(0), 0);
        due("fault(1) without", x.fault(1), NONE);
    }

    @Says("NONE for another what.")
    static void promise4_fault_anotherWhat() {
        HalfLandings x = new HalfLandings();
        tell(x, "call 101;");
        for (int what : new int[] {-1, 2, 3, Integer.MIN_VALUE, Integer.MAX_VALUE}) {
            due("fault(" + what + ")", x.fault(what), NONE);
        }
    }

    @Says("FAULTS, the first along the text (of one place the least), with its place:")
    static void promise4_fault_theFirstAlongTheText() {
        fault("call ^101;piano 0;rest a b 1;#", 2);
        fault("rest ^a b 99;call 101;", 4);
        fault("seed 1;^seed 100000;", 3);
        fault("bench a 1 1;bench ^a 0 9;", 3);
        fault("bench a 1 1;bench b ^1 9;", 3);
        fault("law sits ^10000 10000;", 2);
        fault(counted("bench @ # 1;", 8) + "^bench a 1 1 1 1;", 2);
        fault("call 1;^stair 1;", 1);
        fault("law sits not 1" + times("+1", 31) + " ^#1;", 1);
        fault("law sits not 1" + times("+1", 31) + " ^not 1;", 1);
        fault("law sits not 1" + times("+1", 31) + " ^7;", 1);
        fault("law sits not 1<1" + times("+1", 30) + "^<1;", 1);
        fault("law sits 1" + times("+1", 31) + "+^10000;", 2);
    }

    @Says({"1 a TOKEN that is none", "or can't stand there (the length, if more must come;"})
    static void promise4_fault_theLength() {
        fault("stair^", 1);
        fault("stair 5^", 1);
        fault("stair 5 \n  ^", 1);
        fault("law sits (1^", 1);
        fault("law sits not ^", 1);
        fault("bench a 1 1;bench ^", 1);
        fault("^#", 1);
        fault("call ^$5;", 1);
        fault("call 5^.", 1);
        fault("law sits 1^!2;", 1);
        fault("law sits 1 ^andor 2;", 1);
        fault("law sits 1^%2;", 1);
    }

    @Says({"2 too much (at it):", "3 told already:"})
    static void promise4_fault_kindsByTheirPlaces() {
        fault("bench a 1 ^9;bench a 1 1;", 2);
        fault("bench a 1 1;bench ^a 99 1;", 3);
        fault("walker a 0 0 1 0;walker b 0 ^99", 2);
        fault("walker a 0 0 1 0;walker ^a 99", 3);
    }

    @Says("The number of a BENCH (what 0), a WALKER (1) by its letters,")
    static void promise5_named_benchesAndWalkers() {
        HalfLandings x = told("bench a 1 1;bench b 2 1;walker b 0 0 1 0;walker c 0 0 1 0;");
        due("bench a", x.named(0, code("a")), 0);
        due("bench b", x.named(0, code("b")), 1);
        due("walker b", x.named(1, code("b")), 0);
        due("walker c", x.named(1, code("c")), 1);
        due("no bench c", x.named(0, code("c")), NONE);
        due("no walker a", x.named(1, code("a")), NONE);
    }

    @Says("5 bits each (a is 1; the first one highest of six, 0 behind the last one);")
    static void promise5_named_fiveBitsEach() {
        HalfLandings x = told("bench a 1 1;bench z 2 1;bench zzzzzz 3 1;bench ab 4 1;bench abcdef 5 1;");
        due("a", x.named(0, 1 << 25), 0);
        due("z", x.named(0, 26 << 25), 1);
        due("zzzzzz", x.named(0, 26 << 25 | 26 << 20 | 26 << 15 | 26 << 10 | 26 << 5 | 26), 2);
        due("ab", x.named(0, 1 << 25 | 2 << 20), 3);
        due("abcdef", x.named(0, 1 << 25 | 2 << 20 | 3 << 15 | 4 << 10 | 5 << 5 | 6), 4);
    }

    @Says("NONE: there is none such.")
    static void promise5_named_noneSuch() {
        HalfLandings x = told("bench a 1 1;walker a 0 0 1 0;");
        for (int what : new int[] {-1, 2, Integer.MIN_VALUE, Integer.MAX_VALUE}) {
            due("named(" + what + ", a)", x.named(what, code("a")), NONE);
        }
        for (int letters : new int[] {0, 1, 1 << 20, 1 << 25 | 1, 1 << 25 | 1 << 20, 1 << 25 | 1 << 30, 1 << 25 | 1 << 31, -1,
            Integer.MIN_VALUE, Integer.MAX_VALUE}) {
            due("named(0, " + letters + ")", x.named(0, letters), NONE);
            due("named(1, " + letters + ")", x.named(1, letters), NONE);
        }
        tell(x, "bench b 1 1;");
        due("a name of an older text", x.named(0, code("a")), NONE);
        due("a walker of an older text", x.named(1, code("a")), NONE);
    }
}
