import java.util.Arrays;
import java.util.NoSuchElementException;

public final class HalfLandings {
    public static final int NONE = -1;

    private static final int NOT_SO = -2;
    private static final int MOST_BYTES = 700;
    private static final int BYTES_OF_A_FEED = 20;
    private static final int MOST_BENCHES = 8;
    private static final int MOST_WALKERS = 6;
    private static final int MOST_RESTS = 12;
    private static final int MOST_TOP = 60;
    private static final int TOP_UNTOLD = 20;
    private static final int MOST_SEATS = 3;
    private static final int MOST_PACE = 9;
    private static final int LONGEST_REST = 30;
    private static final int LONGEST_PUSH = 3;
    private static final int MOST_KNOTS = 64;
    private static final int MOST_OPEN = 8;
    private static final int MOST_SEEN = 24;
    private static final int LAST_SEEN_MINUTE = 60;
    private static final int MOST_UNDONE = 20;
    private static final int MOST_MINUTES = 200;
    private static final int LAST_MINUTE = 9800;
    private static final int FAR = 199;
    private static final int MINUTES_OF_BEST = 60;
    private static final int MOST_QUIET = 6;
    private static final int MOST_DRAWN_MINUTES = 99;
    private static final int TIMES_DRAWN = 10;
    private static final int MOST_WORN = 9999;
    private static final int MOST_TALK = 99999;
    private static final int MOST_TALK_ASKED = 9999;
    private static final int MOST_SAT = 999;

    private static final int WAITS = 0;
    private static final int WALKS = 1;
    private static final int SITS = 2;
    private static final int OUT = 3;

    private static final int LAWS = 3;
    private static final int LAW_OF_SITTING = 0;
    private static final int LAW_OF_TALK = 1;
    private static final int LAW_OF_WEAR = 2;
    private static final long ERROR = Long.MIN_VALUE;

    private static final int AS_IT_GOES = 0;
    private static final int NOBODY_CALLED = 1;
    private static final int BY_NUMBERS = 2;

    private final byte[] tape = new byte[MOST_BYTES];
    private int tapeLength = 0;
    private int faultKind = 0;
    private int faultPlace = NONE;

    // Two plans take turns, so that a text with a fault leaves the other one as it was.
    private Plan plan = new Plan();
    private Plan draft = new Plan();
    private final Tokens tokens = new Tokens(tape);
    private final TextReader reader = new TextReader(tokens, draft);

    private final Scene now = new Scene();
    private final Scene image = new Scene();
    private final Scene trial = new Scene();
    private boolean imageKept = false;
    private final Minutes minutes = new Minutes(plan);
    private final Undone undone = new Undone();
    private final Seen seen = new Seen();

    public HalfLandings() {
        now.begin(plan);
    }

    public int feed(int a, int b, int c, int d, int e) {
        if (tapeLength + BYTES_OF_A_FEED > MOST_BYTES) {
            return NONE;
        }
        putOnTape(a);
        putOnTape(b);
        putOnTape(c);
        putOnTape(d);
        putOnTape(e);
        return tapeLength;
    }

    private void putOnTape(int number) {
        for (int shift = 24; shift >= 0; shift -= 8) {
            tape[tapeLength] = (byte) (number >> shift);
            tapeLength++;
        }
    }

    public int text(int n) {
        if (n < 0 || n > tapeLength) {
            return NOT_SO;
        }
        tapeLength = 0;
        draft.clear();
        int lines = reader.read(n, draft);
        faultKind = tokens.fault;
        faultPlace = tokens.faultPlace;
        if (lines == NONE) {
            return NONE;
        }
        Plan older = plan;
        plan = draft;
        draft = older;
        minutes.plan = plan;
        now.begin(plan);
        imageKept = false;
        undone.clear();
        seen.clear();
        return lines;
    }

    public int fault(int what) {
        if (what == 0) {
            return faultKind;
        }
        return what == 1 ? faultPlace : NONE;
    }

    public int named(int what, int letters) {
        if (what == 0) {
            return plan.benchNamed(letters);
        }
        return what == 1 ? plan.walkerNamed(letters) : NONE;
    }

    public int walker(int walker, int what) throws IndexOutOfBoundsException, NoSuchElementException {
        if (!plan.hasWalker(walker)) {
            throw new IndexOutOfBoundsException("no such walker");
        }
        switch (what) {
            case 0:
                return now.status[walker];
            case 1:
                return now.step[walker];
            case 2:
                return now.down[walker];
            case 3:
                return now.pace[walker];
            case 4:
                return now.left[walker];
            case 5:
                return now.sat[walker];
            case 6:
                return now.met[walker];
            default:
                throw new NoSuchElementException("no such what");
        }
    }

    public int bench(int bench, int what) {
        if (!plan.hasBench(bench)) {
            return NONE;
        }
        int step = plan.benchStep[bench];
        switch (what) {
            case 0:
                return step;
            case 1:
                return now.seats[bench];
            case 2:
                return now.worn[bench];
            case 3:
                return now.sittersOn(step);
            case 4:
                return now.seats[bench] - Integer.bitCount(now.sittersOn(step));
            default:
                return NONE;
        }
    }

    public int restOf(int rest, int what) {
        if (rest < 0 || rest >= now.restCount) {
            return NONE;
        }
        switch (what) {
            case 0:
                return now.restWalker[rest];
            case 1:
                return now.restBench[rest];
            case 2:
                return now.restMinutes[rest];
            case 3:
                return now.restTaken[rest];
            default:
                return NONE;
        }
    }

    public int piano() {
        return now.piano;
    }

    public long law(int what, int walker, int bench) {
        if (what < 0 || what >= LAWS || !plan.hasWalker(walker) || !plan.hasBench(bench)) {
            return ERROR;
        }
        return minutes.worth(now, what, walker, bench);
    }

    public int sit(int walker, int minutes) {
        if (!plan.hasWalker(walker) || minutes < 1 || minutes > LONGEST_REST) {
            return NONE;
        }
        int step = now.step[walker];
        int bench = plan.benchOn(step);
        if (now.status[walker] != WALKS || bench == NONE || !now.seatFree(bench, step)) {
            return NOT_SO;
        }
        undone.add(walker, 0);
        now.seat(walker, minutes);
        return Integer.bitCount(now.sittersOn(step));
    }

    public boolean rise(int walker) {
        if (!plan.hasWalker(walker) || now.status[walker] != SITS) {
            return false;
        }
        undone.add(walker, now.left[walker]);
        now.stand(walker);
        return true;
    }

    public int push(int steps) {
        if (steps < -LONGEST_PUSH || steps > LONGEST_PUSH || steps == 0 || now.piano == NOT_SO) {
            return NONE;
        }
        int way = steps < 0 ? -1 : 1;
        for (int far = 1; far <= steps * way; far++) {
            int step = now.piano + far * way;
            if (step < 1 || step >= plan.top || now.someoneOn(step)) {
                return NOT_SO;
            }
        }
        undone.add(Undone.PIANO, now.piano);
        now.piano += steps;
        return now.piano;
    }

    public int go(int n) {
        if (n < 0 || n > MOST_MINUTES || now.minute + n > LAST_MINUTE) {
            return NONE;
        }
        if (n > 0) {
            undone.clear();
        }
        minutes.talkMore(now, n, BY_NUMBERS);
        return now.minute;
    }

    public int ahead(int n, int what, int i) {
        if (n < 0 || n > MOST_MINUTES || what < 0 || what > 3) {
            return NONE;
        }
        if (what == 1 && !plan.hasBench(i) || what == 2 && !plan.hasWalker(i)) {
            return NONE;
        }
        trial.become(now);
        int talked = minutes.talkMore(trial, n, AS_IT_GOES);
        switch (what) {
            case 0:
                return talked;
            case 1:
                return trial.worn[i];
            case 2:
                return trial.step[i];
            default:
                return trial.howMany(OUT);
        }
    }

    public int meet(int one, int other) {
        if (!areTwo(one, other)) {
            return NONE;
        }
        trial.become(now);
        // They meet just where they talk, so a clean sheet shows when it is next.
        trial.met[one] = 0;
        for (int k = 1; k <= FAR; k++) {
            minutes.oneMinute(trial, AS_IT_GOES);
            if ((trial.met[one] >> other & 1) == 1) {
                return k;
            }
        }
        return NOT_SO;
    }

    public int pass(int one, int other) {
        if (!areTwo(one, other)) {
            return NONE;
        }
        trial.become(now);
        int before = trial.order(one, other);
        for (int k = 1; k <= FAR; k++) {
            minutes.oneMinute(trial, AS_IT_GOES);
            int after = trial.order(one, other);
            if (before * after < 0) {
                return k;
            }
            before = after;
        }
        return NOT_SO;
    }

    public int out(int walker) {
        if (!plan.hasWalker(walker)) {
            return NONE;
        }
        trial.become(now);
        for (int k = 0; k <= FAR; k++) {
            if (trial.status[walker] == OUT) {
                return k;
            }
            minutes.oneMinute(trial, AS_IT_GOES);
        }
        return NOT_SO;
    }

    public int best(int walker, int bench, int what) {
        if (!plan.hasWalker(walker) || !plan.hasBench(bench) || what < 0 || what > 1) {
            return NONE;
        }
        int most = NONE;
        int mostAt = 0;
        for (int length = 0; length <= LONGEST_REST; length++) {
            trial.become(now);
            if (length > 0) {
                trial.addRest(walker, bench, length);
            }
            int talked = minutes.talkMore(trial, MINUTES_OF_BEST, AS_IT_GOES);
            if (talked > most) {
                most = talked;
                mostAt = length;
            }
        }
        return what == 0 ? mostAt : most;
    }

    public int cover(int n) {
        if (n < 1 || n > MOST_TOP) {
            return NONE;
        }
        int fewest = MOST_BENCHES + 1;
        int least = NOT_SO;
        for (int bits = 0; bits < 1 << plan.benches; bits++) {
            int many = Integer.bitCount(bits);
            if (many < fewest && noStretchBeyond(n, bits)) {
                fewest = many;
                least = bits;
            }
        }
        return least;
    }

    private boolean noStretchBeyond(int n, int bits) {
        int from = 0;
        for (int step = 1; step <= plan.top; step++) {
            int bench = plan.benchOn(step);
            if (step == plan.top || bench != NONE && (bits >> bench & 1) == 1) {
                if (step - from > n) {
                    return false;
                }
                from = step;
            }
        }
        return true;
    }

    public int carry() {
        if (now.piano == NOT_SO) {
            return NONE;
        }
        // Going down first never helps: whoever stands above stays there.
        for (int step = now.piano + 1; step < plan.top; step++) {
            if (now.someoneOn(step)) {
                return NOT_SO;
            }
        }
        return (plan.top - 1 - now.piano + LONGEST_PUSH - 1) / LONGEST_PUSH;
    }

    public int rests(int one, int other) {
        if (!areTwo(one, other)) {
            return NONE;
        }
        int found = 0;
        for (int choice = 0; choice < 4; choice++) {
            if (isRest(now.pace[one], now.pace[other], choice >> 1, choice & 1)) {
                found++;
            }
        }
        return found;
    }

    public int rest(int one, int other, int k) {
        if (!areTwo(one, other) || k < 0) {
            return NONE;
        }
        int found = 0;
        for (int choice = 0; choice < 4; choice++) {
            if (isRest(now.pace[one], now.pace[other], choice >> 1, choice & 1)) {
                if (found == k) {
                    return 10 * (choice >> 1) + (choice & 1);
                }
                found++;
            }
        }
        return NOT_SO;
    }

    private static boolean isRest(int pace, int otherPace, int choice, int otherChoice) {
        return gain(pace, otherPace, choice, otherChoice) >= gain(pace, otherPace, 1 - choice, otherChoice)
            && gain(otherPace, pace, otherChoice, choice) >= gain(otherPace, pace, 1 - otherChoice, choice);
    }

    private static int gain(int pace, int otherPace, int choice, int otherChoice) {
        if (choice == 1) {
            return otherChoice == 1 ? otherPace : 0;
        }
        return otherChoice == 1 ? pace : pace / 2;
    }

    public long quiet(int n, int what) {
        if (n < 0 || n > MOST_QUIET || what < 0 || what > 1) {
            return NONE;
        }
        int quietOf = 100 - plan.call;
        int base = what == 0 ? inLeastTerms(quietOf, 100) : inLeastTerms(100, quietOf);
        long power = 1;
        // A power of a fraction in least terms is in least terms itself.
        for (int i = 0; i < n; i++) {
            power *= base;
        }
        return power;
    }

    /** The part of a fraction of at most 100 by 100 without what it has in common with the other part. */
    private static int inLeastTerms(int part, int other) {
        for (int divisor = 100; divisor > 1; divisor--) {
            if (part % divisor == 0 && other % divisor == 0) {
                return part / divisor;
            }
        }
        return part;
    }

    public int see(int minutes, int bench, int worn, boolean atLeast) {
        if (minutes < 1 || minutes > LAST_SEEN_MINUTE || !plan.hasBench(bench)) {
            return NONE;
        }
        if (worn < 0 || worn > MOST_WORN || seen.isFull()) {
            return NONE;
        }
        return seen.addSight(minutes, bench, worn, atLeast);
    }

    public int strike(int seen) {
        if (seen < 0 || seen >= this.seen.size || this.seen.isFull()) {
            return NONE;
        }
        return this.seen.addStrike(seen);
    }

    public boolean known(int n) {
        if (n < NONE || n > seen.size) {
            return false;
        }
        seen.knownBy = n;
        return true;
    }

    public int paces(int walker) {
        if (!plan.hasWalker(walker)) {
            return NONE;
        }
        seen.sift();
        int bits = 0;
        for (int pace = 1; pace <= MOST_PACE; pace++) {
            trial.begin(plan);
            trial.pace[walker] = pace;
            if (trialBearsOutSeen()) {
                bits |= 1 << pace - 1;
            }
        }
        return bits;
    }

    private boolean trialBearsOutSeen() {
        int last = seen.lastMinute();
        for (int minute = 1; minute <= last; minute++) {
            minutes.oneMinute(trial, AS_IT_GOES);
            if (!seen.agrees(minute, trial.worn)) {
                return false;
            }
        }
        return true;
    }

    public int chance(int seed, int n, int talk) {
        if (seed < 0 || n < 1 || n > MOST_DRAWN_MINUTES || talk < 0 || talk > MOST_TALK_ASKED) {
            return NONE;
        }
        long number = seed;
        int times = 0;
        for (int drawn = 0; drawn < TIMES_DRAWN; drawn++) {
            trial.become(now);
            trial.number = number;
            if (minutes.talkMore(trial, n, BY_NUMBERS) >= talk) {
                times++;
            }
            number = trial.number;
        }
        return times;
    }

    public int tried(int what, int i, int n) {
        if (what < 0 || what > 5 || n < 0 || n > MOST_MINUTES) {
            return NONE;
        }
        if (what == 2 ? !plan.hasWalker(i) : i != 0) {
            return NONE;
        }
        trial.become(now);
        changeTrial(what, i);
        return minutes.talkMore(trial, n, what == 1 ? NOBODY_CALLED : AS_IT_GOES);
    }

    private void changeTrial(int what, int walker) {
        if (what == 2) {
            trial.status[walker] = OUT;
        } else if (what == 3) {
            trial.piano = NOT_SO;
        } else if (what == 4) {
            Arrays.fill(trial.restTaken, 1);
        } else if (what == 5) {
            Arrays.fill(trial.seats, MOST_SEATS);
        }
    }

    public int undo() {
        if (undone.size == 0) {
            return NONE;
        }
        undone.takeBack(now);
        return undone.size;
    }

    public int keep() {
        image.become(now);
        imageKept = true;
        return now.minute;
    }

    public int back() {
        if (!imageKept) {
            return NONE;
        }
        now.become(image);
        undone.clear();
        return now.minute;
    }

    public int count(int what) {
        switch (what) {
            case 0:
                return plan.benches;
            case 1:
                return plan.walkers;
            case 2:
                return plan.rests;
            case 3:
                return plan.top;
            case 4:
                return plan.laws.knots;
            case 5:
                return now.minute;
            case 6:
                return now.talk;
            case 7:
                return now.howMany(OUT);
            case 8:
                return now.howMany(SITS);
            case 9:
                return sumOf(now.worn, plan.benches);
            case 10:
                return sumOf(now.restTaken, plan.rests);
            case 11:
                return seen.size;
            case 12:
                return seen.howManyKnown();
            case 13:
                return undone.size;
            default:
                return NONE;
        }
    }

    private static int sumOf(int[] row, int length) {
        int sum = 0;
        for (int i = 0; i < length && i < row.length; i++) {
            sum += row[i];
        }
        return sum;
    }

    private boolean areTwo(int one, int other) {
        return plan.hasWalker(one) && plan.hasWalker(other) && one != other;
    }

    /** What a TEXT tells; it doesn't change until the next one. */
    private static final class Plan {
        int top = TOP_UNTOLD;
        int piano = NOT_SO;
        int call = 0;
        int seed = 0;

        int benches = 0;
        final int[] benchName = new int[MOST_BENCHES];
        final int[] benchStep = new int[MOST_BENCHES];
        final int[] benchSeats = new int[MOST_BENCHES];
        private final int[] benchAt = new int[MOST_TOP + 1];

        int walkers = 0;
        final int[] walkerName = new int[MOST_WALKERS];
        final int[] walkerStep = new int[MOST_WALKERS];
        final int[] walkerDown = new int[MOST_WALKERS];
        final int[] walkerPace = new int[MOST_WALKERS];
        final int[] walkerMinute = new int[MOST_WALKERS];

        int rests = 0;
        final int[] restWalker = new int[MOST_RESTS];
        final int[] restBench = new int[MOST_RESTS];
        final int[] restMinutes = new int[MOST_RESTS];

        final Laws laws = new Laws();

        Plan() {
            Arrays.fill(benchAt, NONE);
        }

        void clear() {
            top = TOP_UNTOLD;
            piano = NOT_SO;
            call = 0;
            seed = 0;
            benches = 0;
            walkers = 0;
            rests = 0;
            Arrays.fill(benchAt, NONE);
            laws.clear();
        }

        boolean hasBench(int bench) {
            return bench >= 0 && bench < benches;
        }

        boolean hasWalker(int walker) {
            return walker >= 0 && walker < walkers;
        }

        int benchOn(int step) {
            return step < 0 || step > MOST_TOP ? NONE : benchAt[step];
        }

        int benchNamed(int letters) {
            return indexOf(benchName, benches, letters);
        }

        int walkerNamed(int letters) {
            return indexOf(walkerName, walkers, letters);
        }

        private static int indexOf(int[] names, int many, int letters) {
            for (int i = 0; i < many && i < names.length; i++) {
                if (names[i] == letters) {
                    return i;
                }
            }
            return NONE;
        }

        void addBench(int name, int step, int seats) {
            if (benches >= MOST_BENCHES || step < 0 || step > MOST_TOP) {
                return;
            }
            benchName[benches] = name;
            benchStep[benches] = step;
            benchSeats[benches] = seats;
            benchAt[step] = benches;
            benches++;
        }

        void addWalker(int name, int step, int down, int pace, int minute) {
            if (walkers >= MOST_WALKERS) {
                return;
            }
            walkerName[walkers] = name;
            walkerStep[walkers] = step;
            walkerDown[walkers] = down;
            walkerPace[walkers] = pace;
            walkerMinute[walkers] = minute;
            walkers++;
        }

        void addRest(int walker, int bench, int minutes) {
            if (rests >= MOST_RESTS) {
                return;
            }
            restWalker[rests] = walker;
            restBench[rests] = bench;
            restMinutes[rests] = minutes;
            rests++;
        }
    }

    /** The laws' E, each behind its parts (postfix), so that no recursion works them out. */
    private static final class Laws {
        static final int NAMES = 7;
        private static final long MOST_VALUE = 1000000000000L;

        int knots = 0;
        private int size = 0;
        private final int[] kind = new int[MOST_KNOTS];
        private final int[] operand = new int[MOST_KNOTS];
        private int told = 0;
        private final int[] from = new int[LAWS];
        private final int[] to = new int[LAWS];
        private final long[] stack = new long[MOST_KNOTS];

        void clear() {
            knots = 0;
            size = 0;
            told = 0;
        }

        void open(int law) {
            from[law] = size;
        }

        void close(int law) {
            to[law] = size;
            told |= 1 << law;
        }

        void add(int knot, int value) {
            if (size < MOST_KNOTS) {
                kind[size] = knot;
                operand[size] = value;
                size++;
            }
        }

        boolean isTold(int law) {
            return (told >> law & 1) == 1;
        }

        long workOut(int law, long[] names) {
            int height = 0;
            for (int i = from[law]; i < to[law]; i++) {
                int knot = kind[i];
                if (knot == Tokens.NUMBER) {
                    stack[height] = operand[i];
                    height++;
                } else if (knot >= Tokens.FIRST_NAME && knot <= Tokens.LAST_NAME) {
                    stack[height] = names[knot - Tokens.FIRST_NAME];
                    height++;
                } else if (height < 1 || knot != Tokens.NOT && height < 2) {
                    return ERROR;
                } else if (knot == Tokens.NOT) {
                    stack[height - 1] = stack[height - 1] == 0 ? 1 : 0;
                } else if (knot == Tokens.TIMES && isTooLarge(stack[height - 2], stack[height - 1])) {
                    return ERROR;
                } else {
                    height--;
                    long value = join(knot, stack[height - 1], stack[height]);
                    if (value > MOST_VALUE || value < -MOST_VALUE) {
                        return ERROR;
                    }
                    stack[height - 1] = value;
                }
            }
            return height == 1 ? stack[0] : ERROR;
        }

        /** Asked ahead of a product, which may be beyond a long itself. */
        private static boolean isTooLarge(long a, long b) {
            long far = a < 0 ? -a : a;
            long wide = b < 0 ? -b : b;
            return far != 0 && wide > MOST_VALUE / far;
        }

        private static long join(int sign, long a, long b) {
            switch (sign) {
                case Tokens.PLUS:
                    return a + b;
                case Tokens.MINUS:
                    return a - b;
                case Tokens.TIMES:
                    return a * b;
                case Tokens.BY:
                    return b == 0 ? ERROR : a / b;
                case Tokens.LESS:
                    return a < b ? 1 : 0;
                case Tokens.AT_MOST:
                    return a <= b ? 1 : 0;
                case Tokens.EQUAL:
                    return a == b ? 1 : 0;
                case Tokens.UNEQUAL:
                    return a != b ? 1 : 0;
                case Tokens.AT_LEAST:
                    return a >= b ? 1 : 0;
                case Tokens.MORE:
                    return a > b ? 1 : 0;
                case Tokens.AND:
                    return a != 0 && b != 0 ? 1 : 0;
                default:
                    return a != 0 || b != 0 ? 1 : 0;
            }
        }
    }

    /** The text's TOKENS one behind another, and the first FAULT. */
    private static final class Tokens {
        static final int STAIR = 0;
        static final int BENCH = 1;
        static final int WALKER = 2;
        static final int REST = 3;
        static final int PIANO = 4;
        static final int CALL = 5;
        static final int SEED = 6;
        static final int LAW = 7;
        static final int FIRST_RULE = 8;
        static final int LAST_RULE = 10;
        static final int OR = 11;
        static final int AND = 12;
        static final int NOT = 13;
        static final int FIRST_NAME = 14;
        static final int LAST_NAME = 20;
        static final int WORDS = 21;
        static final int OWN_WORD = 21;
        static final int NUMBER = 22;
        static final int SEMICOLON = 23;
        static final int OPEN = 24;
        static final int CLOSE = 25;
        static final int PLUS = 26;
        static final int MINUS = 27;
        static final int TIMES = 28;
        static final int BY = 29;
        static final int LESS = 30;
        static final int AT_MOST = 31;
        static final int EQUAL = 32;
        static final int UNEQUAL = 33;
        static final int AT_LEAST = 34;
        static final int MORE = 35;
        static final int END = 36;
        static final int NO_TOKEN = 37;

        static final int OUT_OF_PLACE = 1;
        static final int TOO_MUCH = 2;
        static final int TOLD_ALREADY = 3;
        static final int NOT_TOLD = 4;

        private static final String LANGUAGE =
            "stair bench walker rest piano call seed law sits talk wear or and not pace up step worn full sat minute ";
        private static final int MOST_LETTERS = 6;
        private static final int FIRST_SHIFT = 25;
        private static final int BITS_OF_A_LETTER = 5;
        // Beyond every bound of the language: more digits change nothing.
        private static final int BEYOND = 100000;

        int kind = END;
        int place = 0;
        // A NUMBER's value, or a word's letters as named() has them.
        int value = 0;
        int fault = 0;
        int faultPlace = NONE;

        private final byte[] bytes;
        private final int[] words = new int[WORDS];
        private int length = 0;
        private int at = 0;

        Tokens(byte[] bytes) {
            this.bytes = bytes;
            int word = 0;
            int letters = 0;
            for (int i = 0; i < LANGUAGE.length() && word < WORDS; i++) {
                char sign = LANGUAGE.charAt(i);
                if (sign == ' ') {
                    word++;
                    letters = 0;
                } else {
                    words[word] |= bitsOfLetter(sign, letters);
                    letters++;
                }
            }
        }

        private static int bitsOfLetter(int letter, int at) {
            return at < MOST_LETTERS ? letter - 'a' + 1 << FIRST_SHIFT - BITS_OF_A_LETTER * at : 0;
        }

        void start(int n) {
            length = Math.min(n, bytes.length);
            at = 0;
            fault = 0;
            faultPlace = NONE;
            next();
        }

        /** Always false, so that a reader may end with it. */
        boolean refuse(int why) {
            fault = why;
            faultPlace = place;
            return false;
        }

        void next() {
            while (at < length && (bytes[at] == 10 || bytes[at] == 32)) {
                at++;
            }
            place = at;
            value = 0;
            if (at >= length) {
                kind = END;
            } else if (isLetter(bytes[at])) {
                readWord();
            } else if (isDigit(bytes[at])) {
                readNumber();
            } else {
                readSign();
            }
        }

        private static boolean isLetter(int sign) {
            return sign >= 'a' && sign <= 'z';
        }

        private static boolean isDigit(int sign) {
            return sign >= '0' && sign <= '9';
        }

        private void readWord() {
            int letters = 0;
            while (at < length && isLetter(bytes[at])) {
                value |= bitsOfLetter(bytes[at], letters);
                letters++;
                at++;
            }
            kind = letters > MOST_LETTERS ? NO_TOKEN : kindOfWord();
        }

        private int kindOfWord() {
            for (int word = 0; word < WORDS; word++) {
                if (words[word] == value) {
                    return word;
                }
            }
            return OWN_WORD;
        }

        private void readNumber() {
            while (at < length && isDigit(bytes[at])) {
                value = Math.min(value * 10 + bytes[at] - '0', BEYOND);
                at++;
            }
            kind = NUMBER;
        }

        private void readSign() {
            int sign = bytes[at];
            at++;
            if (sign == '<') {
                kind = takes('=') ? AT_MOST : takes('>') ? UNEQUAL : LESS;
            } else if (sign == '>') {
                kind = takes('=') ? AT_LEAST : MORE;
            } else {
                kind = kindOfSign(sign);
            }
        }

        private boolean takes(int sign) {
            boolean here = at < length && bytes[at] == sign;
            if (here) {
                at++;
            }
            return here;
        }

        private static int kindOfSign(int sign) {
            switch (sign) {
                case ';':
                    return SEMICOLON;
                case '(':
                    return OPEN;
                case ')':
                    return CLOSE;
                case '+':
                    return PLUS;
                case '-':
                    return MINUS;
                case '*':
                    return TIMES;
                case '/':
                    return BY;
                case '=':
                    return EQUAL;
                default:
                    return NO_TOKEN;
            }
        }
    }

    /** Reads the LINES into a plan; each method is false with a FAULT, which the tokens hold. */
    private static final class TextReader {
        private static final int MOST_CALL = 100;
        private static final int MOST_SEED = 99999;
        private static final int LAST_BEGINNING = 99;

        private final Tokens tokens;
        private final LawReader lawReader;
        private Plan plan;
        // Bits of the words that may be told but once.
        private int toldOnce = 0;

        TextReader(Tokens tokens, Plan plan) {
            this.tokens = tokens;
            this.plan = plan;
            this.lawReader = new LawReader(tokens);
        }

        int read(int n, Plan draft) {
            plan = draft;
            toldOnce = 0;
            tokens.start(n);
            for (int lines = 0; lines <= n; lines++) {
                if (tokens.kind == Tokens.END) {
                    return lines;
                }
                if (!readLine(lines == 0)) {
                    return NONE;
                }
                if (tokens.kind != Tokens.SEMICOLON) {
                    tokens.refuse(Tokens.OUT_OF_PLACE);
                    return NONE;
                }
                tokens.next();
            }
            return NONE;
        }

        private boolean readLine(boolean first) {
            switch (tokens.kind) {
                case Tokens.STAIR:
                    return first ? readStair() : tokens.refuse(Tokens.OUT_OF_PLACE);
                case Tokens.BENCH:
                    return readBench();
                case Tokens.WALKER:
                    return readWalker();
                case Tokens.REST:
                    return readRest();
                case Tokens.PIANO:
                case Tokens.CALL:
                case Tokens.SEED:
                    return readNumberLine(tokens.kind);
                case Tokens.LAW:
                    return readLaw();
                default:
                    return tokens.refuse(Tokens.OUT_OF_PLACE);
            }
        }

        private boolean readStair() {
            tokens.next();
            if (!isNumber(2, MOST_TOP)) {
                return false;
            }
            plan.top = tokens.value;
            tokens.next();
            return true;
        }

        private boolean readBench() {
            if (plan.benches >= MOST_BENCHES) {
                return tokens.refuse(Tokens.TOO_MUCH);
            }
            tokens.next();
            if (!isNewName(plan.benchNamed(tokens.value))) {
                return false;
            }
            int name = tokens.value;
            tokens.next();
            if (!isNumber(1, plan.top - 1)) {
                return false;
            }
            int step = tokens.value;
            if (plan.benchOn(step) != NONE) {
                return tokens.refuse(Tokens.TOLD_ALREADY);
            }
            tokens.next();
            if (!isNumber(1, MOST_SEATS)) {
                return false;
            }
            plan.addBench(name, step, tokens.value);
            tokens.next();
            return true;
        }

        private boolean readWalker() {
            if (plan.walkers >= MOST_WALKERS) {
                return tokens.refuse(Tokens.TOO_MUCH);
            }
            tokens.next();
            if (!isNewName(plan.walkerNamed(tokens.value))) {
                return false;
            }
            int name = tokens.value;
            tokens.next();
            if (!isNumber(0, plan.top)) {
                return false;
            }
            int step = tokens.value;
            tokens.next();
            if (!isNumber(0, 1)) {
                return false;
            }
            int down = tokens.value;
            tokens.next();
            if (!isNumber(1, MOST_PACE)) {
                return false;
            }
            int pace = tokens.value;
            tokens.next();
            if (!isNumber(0, LAST_BEGINNING)) {
                return false;
            }
            plan.addWalker(name, step, down, pace, tokens.value);
            tokens.next();
            return true;
        }

        private boolean readRest() {
            if (plan.rests >= MOST_RESTS) {
                return tokens.refuse(Tokens.TOO_MUCH);
            }
            tokens.next();
            int walker = plan.walkerNamed(tokens.value);
            if (!isToldName(walker)) {
                return false;
            }
            tokens.next();
            int bench = plan.benchNamed(tokens.value);
            if (!isToldName(bench)) {
                return false;
            }
            tokens.next();
            if (!isNumber(1, LONGEST_REST)) {
                return false;
            }
            plan.addRest(walker, bench, tokens.value);
            tokens.next();
            return true;
        }

        private boolean readNumberLine(int word) {
            if (!isFirstTime(word)) {
                return false;
            }
            tokens.next();
            if (word == Tokens.PIANO) {
                if (!isNumber(1, plan.top - 1)) {
                    return false;
                }
                plan.piano = tokens.value;
            } else if (word == Tokens.CALL) {
                if (!isNumber(0, MOST_CALL)) {
                    return false;
                }
                plan.call = tokens.value;
            } else {
                if (!isNumber(0, MOST_SEED)) {
                    return false;
                }
                plan.seed = tokens.value;
            }
            tokens.next();
            return true;
        }

        private boolean readLaw() {
            tokens.next();
            int rule = tokens.kind;
            if (rule < Tokens.FIRST_RULE || rule > Tokens.LAST_RULE) {
                return tokens.refuse(Tokens.OUT_OF_PLACE);
            }
            if (!isFirstTime(rule)) {
                return false;
            }
            tokens.next();
            int law = rule - Tokens.FIRST_RULE;
            plan.laws.open(law);
            if (!lawReader.read(plan.laws)) {
                return false;
            }
            plan.laws.close(law);
            return true;
        }

        private boolean isFirstTime(int word) {
            if ((toldOnce >> word & 1) == 1) {
                return tokens.refuse(Tokens.TOLD_ALREADY);
            }
            toldOnce |= 1 << word;
            return true;
        }

        private boolean isNumber(int least, int most) {
            if (tokens.kind != Tokens.NUMBER) {
                return tokens.refuse(Tokens.OUT_OF_PLACE);
            }
            return tokens.value >= least && tokens.value <= most || tokens.refuse(Tokens.TOO_MUCH);
        }

        private boolean isNewName(int told) {
            if (tokens.kind != Tokens.OWN_WORD) {
                return tokens.refuse(Tokens.OUT_OF_PLACE);
            }
            return told == NONE || tokens.refuse(Tokens.TOLD_ALREADY);
        }

        private boolean isToldName(int told) {
            if (tokens.kind != Tokens.OWN_WORD) {
                return tokens.refuse(Tokens.OUT_OF_PLACE);
            }
            return told != NONE || tokens.refuse(Tokens.NOT_TOLD);
        }
    }

    /** Reads an E up to its ';' with a row of waiting signs in place of recursion. */
    private static final class LawReader {
        private static final int MOST_NUMBER = 9999;
        private static final int RANK_OF_NOT = 3;
        private static final int RANK_OF_COMPARISON = 4;

        private final Tokens tokens;
        private final int[] waiting = new int[MOST_KNOTS + MOST_OPEN];
        private int waitingCount = 0;
        private int open = 0;
        private boolean valueComes = true;
        private boolean notMayCome = true;

        LawReader(Tokens tokens) {
            this.tokens = tokens;
        }

        boolean read(Laws laws) {
            waitingCount = 0;
            open = 0;
            valueComes = true;
            notMayCome = true;
            for (int i = 0; i <= MOST_BYTES; i++) {
                if (!valueComes && open == 0 && tokens.kind == Tokens.SEMICOLON) {
                    release(laws, 1);
                    return true;
                }
                if (!(valueComes ? readValue(laws) : readSign(laws))) {
                    return false;
                }
                tokens.next();
            }
            return false;
        }

        private boolean readValue(Laws laws) {
            int kind = tokens.kind;
            if (kind == Tokens.OPEN) {
                if (open >= MOST_OPEN) {
                    return tokens.refuse(Tokens.TOO_MUCH);
                }
                open++;
                notMayCome = true;
                return hold(kind);
            }
            if (kind == Tokens.NOT) {
                return notMayCome ? countKnot(laws) && hold(kind) : tokens.refuse(Tokens.OUT_OF_PLACE);
            }
            boolean isNumber = kind == Tokens.NUMBER;
            if (!isNumber && (kind < Tokens.FIRST_NAME || kind > Tokens.LAST_NAME)) {
                return tokens.refuse(Tokens.OUT_OF_PLACE);
            }
            if (isNumber && tokens.value > MOST_NUMBER) {
                return tokens.refuse(Tokens.TOO_MUCH);
            }
            if (!countKnot(laws)) {
                return false;
            }
            laws.add(kind, tokens.value);
            valueComes = false;
            return true;
        }

        private boolean readSign(Laws laws) {
            int kind = tokens.kind;
            if (kind == Tokens.CLOSE && open > 0) {
                release(laws, 1);
                open--;
                waitingCount--;
                return true;
            }
            int rank = rankOf(kind);
            if (rank == 0 || rank == RANK_OF_NOT) {
                return tokens.refuse(Tokens.OUT_OF_PLACE);
            }
            if (rank == RANK_OF_COMPARISON) {
                release(laws, rank + 1);
                if (waitingCount > 0 && rankOf(waiting[waitingCount - 1]) == rank) {
                    return tokens.refuse(Tokens.OUT_OF_PLACE);
                }
            }
            if (!countKnot(laws)) {
                return false;
            }
            release(laws, rank);
            valueComes = true;
            notMayCome = rank < RANK_OF_NOT;
            return hold(kind);
        }

        private boolean countKnot(Laws laws) {
            if (laws.knots >= MOST_KNOTS) {
                return tokens.refuse(Tokens.TOO_MUCH);
            }
            laws.knots++;
            return true;
        }

        private boolean hold(int sign) {
            if (waitingCount >= waiting.length) {
                return tokens.refuse(Tokens.TOO_MUCH);
            }
            waiting[waitingCount] = sign;
            waitingCount++;
            return true;
        }

        /** A '(' has rank 0 and so holds back what waits below it. */
        private void release(Laws laws, int leastRank) {
            while (waitingCount > 0 && rankOf(waiting[waitingCount - 1]) >= leastRank) {
                waitingCount--;
                laws.add(waiting[waitingCount], 0);
            }
        }

        private static int rankOf(int kind) {
            if (kind == Tokens.OR) {
                return 1;
            }
            if (kind == Tokens.AND) {
                return 2;
            }
            if (kind == Tokens.NOT) {
                return RANK_OF_NOT;
            }
            if (kind >= Tokens.LESS && kind <= Tokens.MORE) {
                return RANK_OF_COMPARISON;
            }
            if (kind == Tokens.PLUS || kind == Tokens.MINUS) {
                return 5;
            }
            return kind == Tokens.TIMES || kind == Tokens.BY ? 6 : 0;
        }
    }

    /** How all is at one time; trials get one of their own and may change what a TEXT tells. */
    private static final class Scene {
        int minute = 0;
        int talk = 0;
        int piano = NOT_SO;
        long number = 0;

        private int walkers = 0;
        final int[] status = new int[MOST_WALKERS];
        final int[] step = new int[MOST_WALKERS];
        final int[] down = new int[MOST_WALKERS];
        final int[] pace = new int[MOST_WALKERS];
        final int[] left = new int[MOST_WALKERS];
        final int[] sat = new int[MOST_WALKERS];
        final int[] met = new int[MOST_WALKERS];

        final int[] seats = new int[MOST_BENCHES];
        final int[] worn = new int[MOST_BENCHES];

        // best() tells one rest more than a text may.
        int restCount = 0;
        final int[] restWalker = new int[MOST_RESTS + 1];
        final int[] restBench = new int[MOST_RESTS + 1];
        final int[] restMinutes = new int[MOST_RESTS + 1];
        final int[] restTaken = new int[MOST_RESTS + 1];

        void begin(Plan plan) {
            minute = 0;
            talk = 0;
            piano = plan.piano;
            number = plan.seed;
            walkers = plan.walkers;
            Arrays.fill(status, WAITS);
            System.arraycopy(plan.walkerStep, 0, step, 0, MOST_WALKERS);
            System.arraycopy(plan.walkerDown, 0, down, 0, MOST_WALKERS);
            System.arraycopy(plan.walkerPace, 0, pace, 0, MOST_WALKERS);
            Arrays.fill(left, 0);
            Arrays.fill(sat, 0);
            Arrays.fill(met, 0);
            System.arraycopy(plan.benchSeats, 0, seats, 0, MOST_BENCHES);
            Arrays.fill(worn, 0);
            restCount = 0;
            for (int rest = 0; rest < plan.rests && rest < MOST_RESTS; rest++) {
                addRest(plan.restWalker[rest], plan.restBench[rest], plan.restMinutes[rest]);
            }
        }

        void become(Scene other) {
            minute = other.minute;
            talk = other.talk;
            piano = other.piano;
            number = other.number;
            walkers = other.walkers;
            System.arraycopy(other.status, 0, status, 0, MOST_WALKERS);
            System.arraycopy(other.step, 0, step, 0, MOST_WALKERS);
            System.arraycopy(other.down, 0, down, 0, MOST_WALKERS);
            System.arraycopy(other.pace, 0, pace, 0, MOST_WALKERS);
            System.arraycopy(other.left, 0, left, 0, MOST_WALKERS);
            System.arraycopy(other.sat, 0, sat, 0, MOST_WALKERS);
            System.arraycopy(other.met, 0, met, 0, MOST_WALKERS);
            System.arraycopy(other.seats, 0, seats, 0, MOST_BENCHES);
            System.arraycopy(other.worn, 0, worn, 0, MOST_BENCHES);
            restCount = other.restCount;
            System.arraycopy(other.restWalker, 0, restWalker, 0, MOST_RESTS + 1);
            System.arraycopy(other.restBench, 0, restBench, 0, MOST_RESTS + 1);
            System.arraycopy(other.restMinutes, 0, restMinutes, 0, MOST_RESTS + 1);
            System.arraycopy(other.restTaken, 0, restTaken, 0, MOST_RESTS + 1);
        }

        void addRest(int walker, int bench, int minutes) {
            if (restCount > MOST_RESTS) {
                return;
            }
            restWalker[restCount] = walker;
            restBench[restCount] = bench;
            restMinutes[restCount] = minutes;
            restTaken[restCount] = 0;
            restCount++;
        }

        int restNotTaken(int walker, int bench) {
            for (int rest = 0; rest < restCount; rest++) {
                if (restWalker[rest] == walker && restBench[rest] == bench && restTaken[rest] == 0) {
                    return rest;
                }
            }
            return NONE;
        }

        int sittersOn(int where) {
            int bits = 0;
            for (int walker = 0; walker < walkers; walker++) {
                if (status[walker] == SITS && step[walker] == where) {
                    bits |= 1 << walker;
                }
            }
            return bits;
        }

        boolean seatFree(int bench, int where) {
            return Integer.bitCount(sittersOn(where)) < seats[bench];
        }

        int howMany(int wanted) {
            int found = 0;
            for (int walker = 0; walker < walkers; walker++) {
                if (status[walker] == wanted) {
                    found++;
                }
            }
            return found;
        }

        boolean isThere(int walker) {
            return status[walker] == WALKS || status[walker] == SITS;
        }

        boolean someoneOn(int where) {
            for (int walker = 0; walker < walkers; walker++) {
                if (step[walker] == where && isThere(walker)) {
                    return true;
                }
            }
            return false;
        }

        /** Below 0: one is below the other; 0 also if not both are there. */
        int order(int one, int other) {
            return isThere(one) && isThere(other) ? Integer.compare(step[one], step[other]) : 0;
        }

        void seat(int walker, int minutes) {
            status[walker] = SITS;
            left[walker] = minutes;
        }

        void stand(int walker) {
            status[walker] = WALKS;
            left[walker] = 0;
        }
    }

    /** Lets minutes go by in a scene. */
    private static final class Minutes {
        private static final int LEAST_CALL_AS_IT_GOES = 50;
        private static final int SURE_CALL = 100;
        private static final int MOST_OF_A_LAW = 99;

        Plan plan;
        private final long[] names = new long[Laws.NAMES];

        Minutes(Plan plan) {
            this.plan = plan;
        }

        int talkMore(Scene scene, int n, int calls) {
            int before = scene.talk;
            for (int i = 0; i < n; i++) {
                oneMinute(scene, calls);
            }
            return scene.talk - before;
        }

        void oneMinute(Scene scene, int calls) {
            for (int walker = 0; walker < plan.walkers; walker++) {
                if (scene.status[walker] == WAITS && plan.walkerMinute[walker] == scene.minute) {
                    scene.status[walker] = WALKS;
                }
            }
            for (int walker = 0; walker < plan.walkers; walker++) {
                if (scene.status[walker] == WALKS) {
                    walk(scene, walker);
                }
            }
            if (scene.howMany(SITS) > 0) {
                talkByTwo(scene);
                wearBenches(scene);
                getUp(scene, calls);
            }
            scene.minute++;
        }

        private void walk(Scene scene, int walker) {
            int pace = scene.pace[walker];
            for (int taken = 0; taken < pace; taken++) {
                int next = scene.step[walker] + (scene.down[walker] == 1 ? -1 : 1);
                if (next == scene.piano) {
                    scene.down[walker] = 1 - scene.down[walker];
                    return;
                }
                if (next < 0 || next > plan.top) {
                    scene.status[walker] = OUT;
                    return;
                }
                scene.step[walker] = next;
                if (next == 0 || next == plan.top) {
                    scene.status[walker] = OUT;
                    return;
                }
                int bench = plan.benchOn(next);
                if (bench != NONE && sitsDown(scene, walker, bench)) {
                    return;
                }
            }
        }

        private boolean sitsDown(Scene scene, int walker, int bench) {
            if (!scene.seatFree(bench, plan.benchStep[bench])) {
                return false;
            }
            int rest = scene.restNotTaken(walker, bench);
            if (rest != NONE) {
                scene.restTaken[rest] = 1;
                scene.seat(walker, scene.restMinutes[rest]);
                return true;
            }
            long will = worth(scene, LAW_OF_SITTING, walker, bench);
            if (will == 0 || will == ERROR) {
                return false;
            }
            scene.seat(walker, 1);
            return true;
        }

        // No bench's talk or wear touches another one's, so going by walkers comes to the
        // same as going by benches, and is shorter.
        private void talkByTwo(Scene scene) {
            for (int first = 0; first < plan.walkers; first++) {
                for (int other = first + 1; other < plan.walkers; other++) {
                    if (sitTogether(scene, first, other)) {
                        int more = amount(scene, LAW_OF_TALK, first);
                        scene.talk = Math.min(scene.talk + more, MOST_TALK);
                        scene.met[first] |= 1 << other;
                        scene.met[other] |= 1 << first;
                    }
                }
            }
        }

        private static boolean sitTogether(Scene scene, int first, int other) {
            return scene.status[first] == SITS && scene.status[other] == SITS
                && scene.step[first] == scene.step[other];
        }

        private void wearBenches(Scene scene) {
            for (int walker = 0; walker < plan.walkers; walker++) {
                int bench = plan.benchOn(scene.step[walker]);
                if (scene.status[walker] == SITS && bench != NONE) {
                    int more = amount(scene, LAW_OF_WEAR, walker);
                    scene.worn[bench] = Math.min(scene.worn[bench] + more, MOST_WORN);
                }
            }
        }

        private void getUp(Scene scene, int calls) {
            for (int walker = 0; walker < plan.walkers; walker++) {
                if (scene.status[walker] == SITS) {
                    scene.sat[walker] = Math.min(scene.sat[walker] + 1, MOST_SAT);
                    scene.left[walker]--;
                    if (scene.left[walker] <= 0 || isCalled(scene, calls)) {
                        scene.stand(walker);
                    }
                }
            }
        }

        private boolean isCalled(Scene scene, int calls) {
            if (calls == NOBODY_CALLED || plan.call == 0) {
                return false;
            }
            if (calls == AS_IT_GOES) {
                return plan.call >= LEAST_CALL_AS_IT_GOES;
            }
            if (plan.call == SURE_CALL) {
                return true;
            }
            scene.number = scene.number * 1103515245L + 12345L & 0x7fffffffL;
            return scene.number / 65536 % 100 < plan.call;
        }

        private int amount(Scene scene, int law, int walker) {
            int bench = plan.benchOn(scene.step[walker]);
            long worth = bench == NONE ? ERROR : worth(scene, law, walker, bench);
            if (worth == ERROR) {
                return 1;
            }
            return (int) Math.max(0, Math.min(worth, MOST_OF_A_LAW));
        }

        /** ERROR also without such a law. */
        long worth(Scene scene, int law, int walker, int bench) {
            if (!plan.laws.isTold(law)) {
                return ERROR;
            }
            names[0] = scene.pace[walker];
            names[1] = 1 - scene.down[walker];
            names[2] = plan.benchStep[bench];
            names[3] = scene.worn[bench];
            names[4] = Integer.bitCount(scene.sittersOn(plan.benchStep[bench]));
            names[5] = scene.sat[walker];
            names[6] = scene.minute;
            return plan.laws.workOut(law, names);
        }
    }

    /** What was SEEN, and which of it is STRUCK. */
    private static final class Seen {
        private static final int ALL = -1;

        int size = 0;
        int knownBy = ALL;
        // The number that an entry strikes; NONE: it is a sight.
        private final int[] strikes = new int[MOST_SEEN];
        private final int[] minutes = new int[MOST_SEEN];
        private final int[] bench = new int[MOST_SEEN];
        private final int[] worn = new int[MOST_SEEN];
        private final boolean[] atLeast = new boolean[MOST_SEEN];
        private final boolean[] counts = new boolean[MOST_SEEN];

        void clear() {
            size = 0;
            knownBy = ALL;
        }

        boolean isFull() {
            return size >= MOST_SEEN;
        }

        int howManyKnown() {
            return knownBy == ALL ? size : knownBy;
        }

        int addSight(int behind, int where, int much, boolean least) {
            strikes[size] = NONE;
            minutes[size] = behind;
            bench[size] = where;
            worn[size] = much;
            atLeast[size] = least;
            size++;
            return size - 1;
        }

        int addStrike(int struck) {
            strikes[size] = struck;
            size++;
            return size - 1;
        }

        /** From the last one on: whether one that strikes counts is settled before it is asked. */
        void sift() {
            int many = howManyKnown();
            for (int i = 0; i < MOST_SEEN; i++) {
                counts[i] = i < many;
            }
            for (int i = many - 1; i >= 0; i--) {
                if (counts[i] && strikes[i] != NONE) {
                    counts[strikes[i]] = false;
                }
            }
        }

        private boolean isKnownSight(int i) {
            return counts[i] && strikes[i] == NONE;
        }

        int lastMinute() {
            int last = 0;
            for (int i = 0; i < size; i++) {
                if (isKnownSight(i)) {
                    last = Math.max(last, minutes[i]);
                }
            }
            return last;
        }

        boolean agrees(int minute, int[] wornThen) {
            for (int i = 0; i < size; i++) {
                if (isKnownSight(i) && minutes[i] == minute
                    && wornThen[bench[i]] >= worn[i] != atLeast[i]) {
                    return false;
                }
            }
            return true;
        }
    }

    /** What was done by call in this minute, the latest last. */
    private static final class Undone {
        static final int PIANO = -1;

        int size = 0;
        private final int[] who = new int[MOST_UNDONE];
        // Where the piano was, or for how long the walker was to sit yet (0: he walked).
        private final int[] before = new int[MOST_UNDONE];

        void clear() {
            size = 0;
        }

        void add(int whom, int was) {
            if (size >= MOST_UNDONE) {
                System.arraycopy(who, 1, who, 0, MOST_UNDONE - 1);
                System.arraycopy(before, 1, before, 0, MOST_UNDONE - 1);
                size = MOST_UNDONE - 1;
            }
            who[size] = whom;
            before[size] = was;
            size++;
        }

        void takeBack(Scene scene) {
            size--;
            int whom = who[size];
            if (whom == PIANO) {
                scene.piano = before[size];
            } else if (before[size] == 0) {
                scene.stand(whom);
            } else {
                scene.seat(whom, before[size]);
            }
        }
    }
}
