import java.util.NoSuchElementException;

/** What the tests share: texts told to an object, answers compared with those that are due. */
class Check {
    static final int NONE = -1;
    static final long ERROR = Long.MIN_VALUE;

    static int wrong = 0;
    static int asked = 0;
    // Which test asks; it stands ahead of what is printed.
    static String test = "";

    static void due(String what, long got, long want) {
        asked++;
        if (got != want) {
            wrong++;
            System.out.println(test + what + " answered " + got + ", due is " + want);
        }
    }

    static void due(String what, boolean got, boolean want) {
        due(what, got ? 1 : 0, want ? 1 : 0);
    }

    static void endWith(String what) {
        System.out.println(what + asked + " answers, " + wrong + " not as due");
        if (wrong != 0) {
            System.exit(1);
        }
    }

    static void feedAll(HalfLandings x, String text) {
        for (int i = 0; i < text.length(); i += 20) {
            int[] five = new int[5];
            for (int k = 0; k < 20; k++) {
                five[k / 4] = five[k / 4] << 8 | (i + k < text.length() ? text.charAt(i + k) : ' ');
            }
            if (x.feed(five[0], five[1], five[2], five[3], five[4]) == NONE) {
                due("room on the tape for " + text, 0, 1);
            }
        }
    }

    static int tell(HalfLandings x, String text) {
        feedAll(x, text);
        return x.text(text.length());
    }

    static HalfLandings told(String text) {
        HalfLandings x = new HalfLandings();
        if (tell(x, text) < 0) {
            due("a text without a fault: " + text, x.fault(0) * 1000 + x.fault(1), 0);
        }
        return x;
    }

    static void fault(String text, int kind, int place) {
        HalfLandings x = new HalfLandings();
        due("text of '" + text + "'", tell(x, text), NONE);
        due("fault(0) of '" + text + "'", x.fault(0), kind);
        due("fault(1) of '" + text + "'", x.fault(1), place);
    }

    /** The place of the fault is where the text has a '^', which is no part of it. */
    static void fault(String marked, int kind) {
        int place = marked.indexOf('^');
        fault(marked.substring(0, place) + marked.substring(place + 1), kind, place);
    }

    static void lines(String text, int many) {
        HalfLandings x = new HalfLandings();
        due("text of '" + text + "'", tell(x, text), many);
        due("fault(0) of '" + text + "'", x.fault(0), 0);
        due("fault(1) of '" + text + "'", x.fault(1), NONE);
    }

    static String times(String part, int many) {
        StringBuilder all = new StringBuilder();
        for (int i = 0; i < many; i++) {
            all.append(part);
        }
        return all.toString();
    }

    /** So many lines, '@' being a, b, c .. and '#' being 1, 2, 3 .. in them. */
    static String counted(String line, int many) {
        StringBuilder all = new StringBuilder();
        for (int i = 0; i < many; i++) {
            all.append(line.replace("@", String.valueOf((char) ('a' + i))).replace("#", String.valueOf(i + 1)));
        }
        return all.toString();
    }

    static int code(String word) {
        int bits = 0;
        for (int i = 0; i < 6; i++) {
            bits = bits << 5 | (i < word.length() ? word.charAt(i) - 'a' + 1 : 0);
        }
        return bits;
    }

    /** 1 for IndexOutOfBoundsException, 2 for NoSuchElementException, 0 for an answer. */
    static int thrown(HalfLandings x, int walker, int what) {
        try {
            x.walker(walker, what);
        } catch (IndexOutOfBoundsException e) {
            return 1;
        } catch (NoSuchElementException e) {
            return 2;
        }
        return 0;
    }

    /** The state behind a number; the number itself is this by 65536. */
    static long nextState(long state) {
        return (state * 1103515245L + 12345L) % 2147483648L;
    }

    static boolean isCalled(long state, int call) {
        return state / 65536 % 100 < call;
    }

    /** The least seed by whose first so many numbers nobody is called. */
    static int seedOfNoCall(int call, int numbers) {
        for (int seed = 0; seed <= 99999; seed++) {
            long state = seed;
            int quiet = 0;
            while (quiet < numbers && !isCalled(nextState(state), call)) {
                state = nextState(state);
                quiet++;
            }
            if (quiet == numbers) {
                return seed;
            }
        }
        return NONE;
    }
}
