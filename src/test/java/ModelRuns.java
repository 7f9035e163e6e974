import java.util.ArrayList;
import java.util.Arrays;
import java.util.HashSet;
import java.util.List;
import java.util.NoSuchElementException;
import java.util.Random;

/** Random runs of calls on HalfLandings and on a second program, written plainly from the document. */
public final class ModelRuns {
    private static final int RUNS = 6000;
    private static final List<String> LANGUAGE = Arrays.asList("stair", "bench", "walker", "rest", "piano", "call",
        "seed", "law", "sits", "talk", "wear", "or", "and", "not", "pace", "up", "step", "worn", "full", "sat", "minute");

    private static int wrong = 0;

    public static void main(String[] args) {
        long calls = 0;
        for (int run = 0; run < RUNS && wrong < 20; run++) {
            calls += new Run(run).go();
        }
        System.out.println(RUNS + " runs, " + calls + " calls, " + wrong + " answers not as due");
        System.out.println("texts read " + Run.texts + ", with a fault " + Run.faults);
        if (wrong != 0) {
            System.exit(1);
        }
    }

    // ---- the second program

    private static final class Fault extends RuntimeException {
        private static final long serialVersionUID = 1;
        final int kind;
        final int place;

        Fault(int kind, int place) {
            this.kind = kind;
            this.place = place;
        }
    }

    private static final class LawError extends RuntimeException {
        private static final long serialVersionUID = 1;
    }

    private static final class Node {
        String sign;
        Node a;
        Node b;
        long number;

        Node(String sign, Node a, Node b, long number) {
            this.sign = sign;
            this.a = a;
            this.b = b;
            this.number = number;
        }
    }

    private static final class Token {
        final String word;
        final int place;

        Token(String word, int place) {
            this.word = word;
            this.place = place;
        }

        boolean isWord() {
            return word.matches("[a-z]+");
        }

        boolean isNumber() {
            return word.matches("[0-9]+");
        }
    }

    private static final class BenchOf {
        String name;
        int step;
        int seats;
        int worn;
    }

    private static final class WalkerOf {
        String name;
        int step;
        boolean down;
        int pace;
        int minute;
        int state;
        int left;
        int sat;
        int met;
    }

    private static final class RestOf {
        int walker;
        int bench;
        int minutes;
        boolean taken;
    }

    /** All that a text tells and all that is now. */
    private static final class World {
        int top = 20;
        int piano = -2;
        int call = 0;
        int seed = 0;
        long number = 0;
        int minute = 0;
        int talk = 0;
        int knots = 0;
        int lines = 0;
        final Node[] laws = new Node[3];
        List<BenchOf> benches = new ArrayList<>();
        List<WalkerOf> walkers = new ArrayList<>();
        List<RestOf> rests = new ArrayList<>();

        World copy() {
            World w = new World();
            w.top = top;
            w.piano = piano;
            w.call = call;
            w.seed = seed;
            w.number = number;
            w.minute = minute;
            w.talk = talk;
            w.knots = knots;
            w.lines = lines;
            System.arraycopy(laws, 0, w.laws, 0, 3);
            for (BenchOf b : benches) {
                BenchOf c = new BenchOf();
                c.name = b.name;
                c.step = b.step;
                c.seats = b.seats;
                c.worn = b.worn;
                w.benches.add(c);
            }
            for (WalkerOf a : walkers) {
                WalkerOf c = new WalkerOf();
                c.name = a.name;
                c.step = a.step;
                c.down = a.down;
                c.pace = a.pace;
                c.minute = a.minute;
                c.state = a.state;
                c.left = a.left;
                c.sat = a.sat;
                c.met = a.met;
                w.walkers.add(c);
            }
            for (RestOf r : rests) {
                w.addRest(r.walker, r.bench, r.minutes);
                w.rests.get(w.rests.size() - 1).taken = r.taken;
            }
            return w;
        }

        void addRest(int walker, int bench, int minutes) {
            RestOf r = new RestOf();
            r.walker = walker;
            r.bench = bench;
            r.minutes = minutes;
            rests.add(r);
        }

        BenchOf benchOn(int step) {
            for (BenchOf b : benches) {
                if (b.step == step) {
                    return b;
                }
            }
            return null;
        }

        List<Integer> sitters(BenchOf b) {
            List<Integer> found = new ArrayList<>();
            for (int i = 0; i < walkers.size(); i++) {
                if (walkers.get(i).state == 2 && walkers.get(i).step == b.step) {
                    found.add(i);
                }
            }
            return found;
        }

        boolean there(int walker) {
            return walkers.get(walker).state == 1 || walkers.get(walker).state == 2;
        }

        long value(Node n, int walker, BenchOf b) {
            WalkerOf w = walkers.get(walker);
            switch (n.sign) {
                case "number": return n.number;
                case "pace": return w.pace;
                case "up": return w.down ? 0 : 1;
                case "step": return b.step;
                case "worn": return b.worn;
                case "full": return sitters(b).size();
                case "sat": return w.sat;
                case "minute": return minute;
                case "not": return value(n.a, walker, b) == 0 ? 1 : 0;
                default: break;
            }
            java.math.BigInteger x = java.math.BigInteger.valueOf(value(n.a, walker, b));
            java.math.BigInteger y = java.math.BigInteger.valueOf(value(n.b, walker, b));
            int order = x.compareTo(y);
            java.math.BigInteger r;
            switch (n.sign) {
                case "+": r = x.add(y); break;
                case "-": r = x.subtract(y); break;
                case "*": r = x.multiply(y); break;
                case "/":
                    if (y.signum() == 0) {
                        throw new LawError();
                    }
                    r = x.divide(y);
                    break;
                case "<": return order < 0 ? 1 : 0;
                case "<=": return order <= 0 ? 1 : 0;
                case "=": return order == 0 ? 1 : 0;
                case "<>": return order != 0 ? 1 : 0;
                case ">=": return order >= 0 ? 1 : 0;
                case ">": return order > 0 ? 1 : 0;
                case "and": return x.signum() != 0 && y.signum() != 0 ? 1 : 0;
                case "or": return x.signum() != 0 || y.signum() != 0 ? 1 : 0;
                default: throw new IllegalStateException(n.sign);
            }
            if (r.abs().compareTo(java.math.BigInteger.TEN.pow(12)) > 0) {
                throw new LawError();
            }
            return r.longValue();
        }

        long law(int law, int walker, BenchOf b, long otherwise) {
            if (laws[law] == null) {
                return otherwise;
            }
            try {
                return value(laws[law], walker, b);
            } catch (LawError e) {
                return otherwise;
            }
        }

        int amount(int law, int walker, BenchOf b) {
            long v = law(law, walker, b, 1);
            return v < 0 ? 0 : v > 99 ? 99 : (int) v;
        }

        /** calls: 0 as it goes, 1 nobody, 2 by numbers; answers which pairs sat together. */
        List<int[]> minute(int calls) {
            for (WalkerOf w : walkers) {
                if (w.state == 0 && w.minute == minute) {
                    w.state = 1;
                }
            }
            for (int i = 0; i < walkers.size(); i++) {
                if (walkers.get(i).state == 1) {
                    walk(i);
                }
            }
            List<int[]> pairs = new ArrayList<>();
            for (BenchOf b : benches) {
                List<Integer> s = sitters(b);
                for (int i = 0; i < s.size(); i++) {
                    for (int j = i + 1; j < s.size(); j++) {
                        talk = Math.min(99999, talk + amount(1, s.get(i), b));
                        walkers.get(s.get(i)).met |= 1 << s.get(j);
                        walkers.get(s.get(j)).met |= 1 << s.get(i);
                        pairs.add(new int[] {s.get(i), s.get(j)});
                    }
                }
            }
            for (BenchOf b : benches) {
                for (int s : sitters(b)) {
                    b.worn = Math.min(9999, b.worn + amount(2, s, b));
                }
            }
            for (WalkerOf w : walkers) {
                if (w.state == 2) {
                    w.sat = Math.min(999, w.sat + 1);
                    w.left--;
                    if (w.left == 0) {
                        w.state = 1;
                    } else if (called(calls)) {
                        w.state = 1;
                        w.left = 0;
                    }
                }
            }
            minute++;
            return pairs;
        }

        boolean called(int calls) {
            if (calls == 1) {
                return false;
            }
            if (calls == 0) {
                return call >= 50;
            }
            if (call == 0 || call == 100) {
                return call == 100;
            }
            number = (number * 1103515245L + 12345L) % (1L << 31);
            return number / 65536 % 100 < call;
        }

        void walk(int who) {
            WalkerOf w = walkers.get(who);
            for (int k = 0; k < w.pace && w.state == 1; k++) {
                int next = w.down ? w.step - 1 : w.step + 1;
                if (piano == next && piano != -2) {
                    w.down = !w.down;
                    return;
                }
                if (next < 0 || next > top) {
                    w.state = 3;
                    return;
                }
                w.step = next;
                if (next == 0 || next == top) {
                    w.state = 3;
                    return;
                }
                BenchOf b = benchOn(next);
                if (b == null || sitters(b).size() >= b.seats) {
                    continue;
                }
                RestOf first = null;
                for (RestOf r : rests) {
                    if (first == null && !r.taken && r.walker == who && benches.get(r.bench) == b) {
                        first = r;
                    }
                }
                if (first != null) {
                    first.taken = true;
                    w.state = 2;
                    w.left = first.minutes;
                } else if (law(0, who, b, 0) != 0) {
                    w.state = 2;
                    w.left = 1;
                }
            }
        }

        int gained(int n, int calls) {
            int before = talk;
            for (int i = 0; i < n; i++) {
                minute(calls);
            }
            return talk - before;
        }

        int outs() {
            int n = 0;
            for (WalkerOf w : walkers) {
                n += w.state == 3 ? 1 : 0;
            }
            return n;
        }
    }

    /** By descent, with the fault thrown where it is seen. */
    private static final class Parser {
        final String text;
        final World world = new World();
        final HashSet<String> told = new HashSet<>();
        int at = 0;
        int open = 0;
        Token token;

        Parser(String text) {
            this.text = text;
        }

        World read() {
            next();
            while (!token.word.isEmpty()) {
                line();
                want(";");
                world.lines++;
            }
            world.number = world.seed;
            return world;
        }

        void next() {
            while (at < text.length() && (text.charAt(at) == ' ' || text.charAt(at) == '\n')) {
                at++;
            }
            String rest = text.substring(at);
            String word;
            if (rest.isEmpty()) {
                word = "";
            } else if (rest.matches("(?s)[a-z].*")) {
                word = rest.replaceFirst("(?s)[^a-z].*", "");
            } else if (rest.matches("(?s)[0-9].*")) {
                word = rest.replaceFirst("(?s)[^0-9].*", "");
            } else if (rest.startsWith("<=") || rest.startsWith("<>") || rest.startsWith(">=")) {
                word = rest.substring(0, 2);
            } else {
                word = rest.substring(0, 1);
            }
            token = new Token(word, at);
            at += word.length();
        }

        void want(String word) {
            if (!token.word.equals(word)) {
                throw new Fault(1, token.place);
            }
            next();
        }

        int number(int least, int most) {
            if (!token.isNumber()) {
                throw new Fault(1, token.place);
            }
            java.math.BigInteger n = new java.math.BigInteger(token.word);
            if (n.compareTo(java.math.BigInteger.valueOf(least)) < 0 || n.compareTo(java.math.BigInteger.valueOf(most)) > 0) {
                throw new Fault(2, token.place);
            }
            return n.intValue();
        }

        int takeNumber(int least, int most) {
            int n = number(least, most);
            next();
            return n;
        }

        String name() {
            if (!token.isWord() || token.word.length() > 6 || LANGUAGE.contains(token.word)) {
                throw new Fault(1, token.place);
            }
            return token.word;
        }

        void once(String word) {
            if (!told.add(word)) {
                throw new Fault(3, token.place);
            }
        }

        void line() {
            String word = token.word;
            int place = token.place;
            switch (word) {
                case "stair":
                    if (world.lines > 0) {
                        throw new Fault(1, place);
                    }
                    next();
                    world.top = takeNumber(2, 60);
                    return;
                case "bench": bench(place); return;
                case "walker": walker(place); return;
                case "rest": rest(place); return;
                case "piano": once(word); next(); world.piano = takeNumber(1, world.top - 1); return;
                case "call": once(word); next(); world.call = takeNumber(0, 100); return;
                case "seed": once(word); next(); world.seed = takeNumber(0, 99999); return;
                case "law": law(); return;
                default: throw new Fault(1, place);
            }
        }

        void bench(int place) {
            if (world.benches.size() == 8) {
                throw new Fault(2, place);
            }
            next();
            BenchOf b = new BenchOf();
            b.name = name();
            for (BenchOf o : world.benches) {
                if (o.name.equals(b.name)) {
                    throw new Fault(3, token.place);
                }
            }
            next();
            b.step = number(1, world.top - 1);
            if (world.benchOn(b.step) != null) {
                throw new Fault(3, token.place);
            }
            next();
            b.seats = takeNumber(1, 3);
            world.benches.add(b);
        }

        void walker(int place) {
            if (world.walkers.size() == 6) {
                throw new Fault(2, place);
            }
            next();
            WalkerOf w = new WalkerOf();
            w.name = name();
            for (WalkerOf o : world.walkers) {
                if (o.name.equals(w.name)) {
                    throw new Fault(3, token.place);
                }
            }
            next();
            w.step = takeNumber(0, world.top);
            w.down = takeNumber(0, 1) == 1;
            w.pace = takeNumber(1, 9);
            w.minute = takeNumber(0, 99);
            world.walkers.add(w);
        }

        void rest(int place) {
            if (world.rests.size() == 12) {
                throw new Fault(2, place);
            }
            next();
            String walker = name();
            int who = -1;
            for (int i = 0; i < world.walkers.size(); i++) {
                who = world.walkers.get(i).name.equals(walker) ? i : who;
            }
            if (who < 0) {
                throw new Fault(4, token.place);
            }
            next();
            String bench = name();
            int where = -1;
            for (int i = 0; i < world.benches.size(); i++) {
                where = world.benches.get(i).name.equals(bench) ? i : where;
            }
            if (where < 0) {
                throw new Fault(4, token.place);
            }
            next();
            world.addRest(who, where, takeNumber(1, 30));
        }

        void law() {
            next();
            int rule = Arrays.asList("sits", "talk", "wear").indexOf(token.word);
            if (rule < 0) {
                throw new Fault(1, token.place);
            }
            once(token.word);
            next();
            open = 0;
            world.laws[rule] = either();
        }

        void knot() {
            world.knots++;
            if (world.knots > 64) {
                throw new Fault(2, token.place);
            }
        }

        Node either() {
            Node a = both();
            while (token.word.equals("or")) {
                knot();
                next();
                a = new Node("or", a, both(), 0);
            }
            return a;
        }

        Node both() {
            Node a = negated();
            while (token.word.equals("and")) {
                knot();
                next();
                a = new Node("and", a, negated(), 0);
            }
            return a;
        }

        Node negated() {
            if (token.word.equals("not")) {
                knot();
                next();
                return new Node("not", negated(), null, 0);
            }
            Node a = sum();
            String sign = token.word;
            if (Arrays.asList("<", "<=", "=", "<>", ">=", ">").contains(sign)) {
                knot();
                next();
                a = new Node(sign, a, sum(), 0);
            }
            return a;
        }

        Node sum() {
            Node a = product();
            while (token.word.equals("+") || token.word.equals("-")) {
                String sign = token.word;
                knot();
                next();
                a = new Node(sign, a, product(), 0);
            }
            return a;
        }

        Node product() {
            Node a = part();
            while (token.word.equals("*") || token.word.equals("/")) {
                String sign = token.word;
                knot();
                next();
                a = new Node(sign, a, part(), 0);
            }
            return a;
        }

        Node part() {
            if (token.word.equals("(")) {
                if (open == 8) {
                    throw new Fault(2, token.place);
                }
                open++;
                next();
                Node a = either();
                want(")");
                open--;
                return a;
            }
            if (token.isNumber()) {
                int n = number(0, 9999);
                knot();
                next();
                return new Node("number", null, null, n);
            }
            if (LANGUAGE.indexOf(token.word) < 14) {
                throw new Fault(1, token.place);
            }
            Node a = new Node(token.word, null, null, 0);
            knot();
            next();
            return a;
        }
    }

    private static final class SeenOf {
        int strikes = -1;
        int minutes;
        int bench;
        int worn;
        boolean atLeast;
    }

    private static final class Model {
        String tape = "";
        World text = new World();
        World now = new World();
        World image = null;
        int fault = 0;
        int place = -1;
        List<SeenOf> seen = new ArrayList<>();
        int known = -1;
        List<World> before = new ArrayList<>();

        boolean isWalker(int w) {
            return w >= 0 && w < now.walkers.size();
        }

        boolean isBench(int b) {
            return b >= 0 && b < now.benches.size();
        }

        boolean two(int a, int b) {
            return isWalker(a) && isWalker(b) && a != b;
        }

        int feed(int... five) {
            if (tape.length() + 20 > 700) {
                return -1;
            }
            for (int n : five) {
                tape += "" + (char) (n >>> 24) + (char) (n >>> 16 & 255) + (char) (n >>> 8 & 255) + (char) (n & 255);
            }
            return tape.length();
        }

        int text(int n) {
            if (n < 0 || n > tape.length()) {
                return -2;
            }
            String read = tape.substring(0, n);
            tape = "";
            try {
                text = new Parser(read).read();
            } catch (Fault f) {
                fault = f.kind;
                place = f.place;
                return -1;
            }
            fault = 0;
            place = -1;
            now = text.copy();
            image = null;
            seen.clear();
            known = -1;
            before.clear();
            return text.lines;
        }

        int fault(int what) {
            return what == 0 ? fault : what == 1 ? place : -1;
        }

        static int code(String name) {
            int c = 0;
            for (int i = 0; i < 6; i++) {
                c = c * 32 + (i < name.length() ? name.charAt(i) - 96 : 0);
            }
            return c;
        }

        int named(int what, int letters) {
            for (int i = 0; what == 0 && i < now.benches.size(); i++) {
                if (code(now.benches.get(i).name) == letters) {
                    return i;
                }
            }
            for (int i = 0; what == 1 && i < now.walkers.size(); i++) {
                if (code(now.walkers.get(i).name) == letters) {
                    return i;
                }
            }
            return -1;
        }

        long walker(int walker, int what) {
            if (!isWalker(walker)) {
                return THREW_INDEX;
            }
            WalkerOf w = now.walkers.get(walker);
            int[] all = {w.state, w.step, w.down ? 1 : 0, w.pace, w.left, w.sat, w.met};
            return what < 0 || what > 6 ? THREW_ELEMENT : all[what];
        }

        int bench(int bench, int what) {
            if (!isBench(bench) || what < 0 || what > 4) {
                return -1;
            }
            BenchOf b = now.benches.get(bench);
            int bits = 0;
            for (int s : now.sitters(b)) {
                bits |= 1 << s;
            }
            return new int[] {b.step, b.seats, b.worn, bits, b.seats - now.sitters(b).size()}[what];
        }

        int restOf(int rest, int what) {
            if (rest < 0 || rest >= now.rests.size() || what < 0 || what > 3) {
                return -1;
            }
            RestOf r = now.rests.get(rest);
            return new int[] {r.walker, r.bench, r.minutes, r.taken ? 1 : 0}[what];
        }

        long law(int what, int walker, int bench) {
            if (what < 0 || what > 2 || !isWalker(walker) || !isBench(bench)) {
                return Long.MIN_VALUE;
            }
            return now.law(what, walker, now.benches.get(bench), Long.MIN_VALUE);
        }

        void remember() {
            before.add(now.copy());
            if (before.size() > 20) {
                before.remove(0);
            }
        }

        int sit(int walker, int minutes) {
            if (!isWalker(walker) || minutes < 1 || minutes > 30) {
                return -1;
            }
            WalkerOf w = now.walkers.get(walker);
            BenchOf b = now.benchOn(w.step);
            if (w.state != 1 || b == null || now.sitters(b).size() == b.seats) {
                return -2;
            }
            remember();
            w.state = 2;
            w.left = minutes;
            return now.sitters(b).size();
        }

        boolean rise(int walker) {
            if (!isWalker(walker) || now.walkers.get(walker).state != 2) {
                return false;
            }
            remember();
            now.walkers.get(walker).state = 1;
            now.walkers.get(walker).left = 0;
            return true;
        }

        boolean free(int step) {
            if (step < 1 || step > now.top - 1) {
                return false;
            }
            for (int i = 0; i < now.walkers.size(); i++) {
                if (now.there(i) && now.walkers.get(i).step == step) {
                    return false;
                }
            }
            return true;
        }

        boolean canPush(int from, int steps) {
            boolean can = true;
            for (int s = Math.min(from, from + steps); s <= Math.max(from, from + steps); s++) {
                can &= s == from || free(s);
            }
            return can;
        }

        int push(int steps) {
            if (steps == 0 || Math.abs((long) steps) > 3 || now.piano == -2) {
                return -1;
            }
            if (!canPush(now.piano, steps)) {
                return -2;
            }
            remember();
            now.piano += steps;
            return now.piano;
        }

        int go(int n) {
            if (n < 0 || n > 200 || now.minute + n > 9800) {
                return -1;
            }
            if (n > 0) {
                before.clear();
            }
            now.gained(n, 2);
            return now.minute;
        }

        int ahead(int n, int what, int i) {
            if (n < 0 || n > 200 || what < 0 || what > 3 || what == 1 && !isBench(i) || what == 2 && !isWalker(i)) {
                return -1;
            }
            World w = now.copy();
            int more = w.gained(n, 0);
            return what == 0 ? more : what == 1 ? w.benches.get(i).worn : what == 2 ? w.walkers.get(i).step : w.outs();
        }

        int meet(int one, int other) {
            if (!two(one, other)) {
                return -1;
            }
            World w = now.copy();
            for (int k = 1; k <= 199; k++) {
                for (int[] pair : w.minute(0)) {
                    if (pair[0] == Math.min(one, other) && pair[1] == Math.max(one, other)) {
                        return k;
                    }
                }
            }
            return -2;
        }

        int pass(int one, int other) {
            if (!two(one, other)) {
                return -1;
            }
            World w = now.copy();
            for (int k = 1; k <= 199; k++) {
                boolean were = w.there(one) && w.there(other);
                int a = w.walkers.get(one).step;
                int b = w.walkers.get(other).step;
                w.minute(0);
                boolean are = w.there(one) && w.there(other);
                int c = w.walkers.get(one).step;
                int d = w.walkers.get(other).step;
                if (were && are && (a < b && c > d || a > b && c < d)) {
                    return k;
                }
            }
            return -2;
        }

        int out(int walker) {
            if (!isWalker(walker)) {
                return -1;
            }
            World w = now.copy();
            for (int k = 0; k <= 199; k++) {
                if (w.walkers.get(walker).state == 3) {
                    return k;
                }
                w.minute(0);
            }
            return -2;
        }

        int best(int walker, int bench, int what) {
            if (!isWalker(walker) || !isBench(bench) || what < 0 || what > 1) {
                return -1;
            }
            int[] talk = new int[31];
            int at = 0;
            for (int m = 0; m <= 30; m++) {
                World w = now.copy();
                if (m > 0) {
                    w.addRest(walker, bench, m);
                }
                talk[m] = w.gained(60, 0);
                at = talk[m] > talk[at] ? m : at;
            }
            return what == 0 ? at : talk[at];
        }

        int cover(int n) {
            if (n < 1 || n > 60) {
                return -1;
            }
            for (int many = 0; many <= now.benches.size(); many++) {
                for (int bits = 0; bits < 1 << now.benches.size(); bits++) {
                    if (Integer.bitCount(bits) == many && covers(bits, n)) {
                        return bits;
                    }
                }
            }
            return -2;
        }

        boolean covers(int bits, int n) {
            List<Integer> stops = new ArrayList<>(Arrays.asList(0, now.top));
            for (int b = 0; b < now.benches.size(); b++) {
                if ((bits >> b & 1) == 1) {
                    stops.add(now.benches.get(b).step);
                }
            }
            stops.sort(null);
            for (int i = 1; i < stops.size(); i++) {
                if (stops.get(i) - stops.get(i - 1) > n) {
                    return false;
                }
            }
            return true;
        }

        int carry() {
            if (now.piano == -2) {
                return -1;
            }
            int[] far = new int[now.top + 1];
            Arrays.fill(far, -1);
            List<Integer> queue = new ArrayList<>();
            queue.add(now.piano);
            far[now.piano] = 0;
            for (int q = 0; q < queue.size(); q++) {
                int at = queue.get(q);
                for (int s = -3; s <= 3; s++) {
                    if (s != 0 && canPush(at, s) && far[at + s] < 0) {
                        far[at + s] = far[at] + 1;
                        queue.add(at + s);
                    }
                }
            }
            return far[now.top - 1] < 0 ? -2 : far[now.top - 1];
        }

        List<Integer> restsOf(int one, int other) {
            int p = now.walkers.get(one).pace;
            int q = now.walkers.get(other).pace;
            int[][] first = {{p / 2, p}, {0, q}};
            int[][] second = {{q / 2, 0}, {q, p}};
            List<Integer> found = new ArrayList<>();
            for (int a = 0; a < 2; a++) {
                for (int b = 0; b < 2; b++) {
                    if (first[a][b] >= first[1 - a][b] && second[a][b] >= second[a][1 - b]) {
                        found.add(10 * a + b);
                    }
                }
            }
            return found;
        }

        int rests(int one, int other) {
            return two(one, other) ? restsOf(one, other).size() : -1;
        }

        int rest(int one, int other, int k) {
            if (!two(one, other) || k < 0) {
                return -1;
            }
            return k < restsOf(one, other).size() ? restsOf(one, other).get(k) : -2;
        }

        long quiet(int n, int what) {
            if (n < 0 || n > 6 || what < 0 || what > 1) {
                return -1;
            }
            java.math.BigInteger above = java.math.BigInteger.valueOf(100 - now.call).pow(n);
            java.math.BigInteger below = java.math.BigInteger.valueOf(100).pow(n);
            return (what == 0 ? above : below).divide(above.gcd(below)).longValue();
        }

        int see(int minutes, int bench, int worn, boolean atLeast) {
            if (minutes < 1 || minutes > 60 || !isBench(bench) || worn < 0 || worn > 9999 || seen.size() == 24) {
                return -1;
            }
            SeenOf s = new SeenOf();
            s.minutes = minutes;
            s.bench = bench;
            s.worn = worn;
            s.atLeast = atLeast;
            seen.add(s);
            return seen.size() - 1;
        }

        int strike(int struck) {
            if (struck < 0 || struck >= seen.size() || seen.size() == 24) {
                return -1;
            }
            SeenOf s = new SeenOf();
            s.strikes = struck;
            seen.add(s);
            return seen.size() - 1;
        }

        boolean known(int n) {
            if (n < -1 || n > seen.size()) {
                return false;
            }
            known = n;
            return true;
        }

        int knownBy() {
            return known < 0 ? seen.size() : known;
        }

        boolean counts(int i) {
            for (int k = i + 1; k < knownBy(); k++) {
                if (seen.get(k).strikes == i && counts(k)) {
                    return false;
                }
            }
            return true;
        }

        int paces(int walker) {
            if (!isWalker(walker)) {
                return -1;
            }
            int bits = 0;
            for (int pace = 1; pace <= 9; pace++) {
                World w = text.copy();
                w.walkers.get(walker).pace = pace;
                int[][] worn = new int[61][];
                for (int m = 0; m <= 60; m++) {
                    worn[m] = w.benches.stream().mapToInt(b -> b.worn).toArray();
                    w.minute(0);
                }
                boolean fits = true;
                for (int i = 0; i < knownBy(); i++) {
                    SeenOf s = seen.get(i);
                    if (s.strikes < 0 && counts(i)) {
                        fits &= s.atLeast ? worn[s.minutes][s.bench] >= s.worn : worn[s.minutes][s.bench] < s.worn;
                    }
                }
                bits |= fits ? 1 << (pace - 1) : 0;
            }
            return bits;
        }

        int chance(int seed, int n, int talk) {
            if (seed < 0 || n < 1 || n > 99 || talk < 0 || talk > 9999) {
                return -1;
            }
            long number = seed;
            int times = 0;
            for (int i = 0; i < 10; i++) {
                World w = now.copy();
                w.number = number;
                times += w.gained(n, 2) >= talk ? 1 : 0;
                number = w.number;
            }
            return times;
        }

        int tried(int what, int i, int n) {
            if (what < 0 || what > 5 || n < 0 || n > 200 || (what == 2 ? !isWalker(i) : i != 0)) {
                return -1;
            }
            World w = now.copy();
            if (what == 2) {
                w.walkers.get(i).state = 3;
            }
            if (what == 3) {
                w.piano = -2;
            }
            for (RestOf r : w.rests) {
                r.taken |= what == 4;
            }
            for (BenchOf b : w.benches) {
                b.seats = what == 5 ? 3 : b.seats;
            }
            return w.gained(n, what == 1 ? 1 : 0);
        }

        int undo() {
            if (before.isEmpty()) {
                return -1;
            }
            now = before.remove(before.size() - 1);
            return before.size();
        }

        int keep() {
            image = now.copy();
            return now.minute;
        }

        int back() {
            if (image == null) {
                return -1;
            }
            now = image.copy();
            before.clear();
            return now.minute;
        }

        int count(int what) {
            int sitting = 0;
            int worn = 0;
            int taken = 0;
            for (WalkerOf w : now.walkers) {
                sitting += w.state == 2 ? 1 : 0;
            }
            for (BenchOf b : now.benches) {
                worn += b.worn;
            }
            for (RestOf r : now.rests) {
                taken += r.taken ? 1 : 0;
            }
            int[] all = {now.benches.size(), now.walkers.size(), now.rests.size(), now.top, now.knots, now.minute,
                now.talk, now.outs(), sitting, worn, taken, seen.size(), knownBy(), before.size()};
            return what < 0 || what >= all.length ? -1 : all[what];
        }
    }

    // ---- the random runs

    private static final long THREW_INDEX = Long.MIN_VALUE + 1;
    private static final long THREW_ELEMENT = Long.MIN_VALUE + 2;

    private static final class Run {
        static int texts = 0;
        static int faults = 0;

        final int run;
        final Random random;
        final HalfLandings x = new HalfLandings();
        final Model m = new Model();
        final StringBuilder log = new StringBuilder();
        int calls = 0;

        Run(int run) {
            this.run = run;
            this.random = new Random(run);
        }

        int go() {
            boolean wrongTexts = run % 3 == 0;
            for (int i = 0; i < (wrongTexts ? 12 : 2); i++) {
                tell(wrongTexts ? spoilt(someText()) : someText());
                if (!wrongTexts) {
                    for (int k = 0; k < 60; k++) {
                        call();
                    }
                } else {
                    for (int what = -1; what <= 14; what++) {
                        due("count(" + what + ")", x.count(what), m.count(what));
                    }
                }
            }
            return calls;
        }

        int upTo(int n) {
            return random.nextInt(n + 1);
        }

        boolean seldom(int n) {
            return random.nextInt(n) == 0;
        }

        void due(String call, long got, long want) {
            calls++;
            log.append("  ").append(call).append(" = ").append(want).append('\n');
            if (got != want && wrong < 20) {
                wrong++;
                System.out.println("run " + run + ": " + call + " answered " + got + ", due is " + want + ", behind\n" + log);
            }
        }

        void tell(String text) {
            String all = text;
            while (all.length() % 20 != 0) {
                all += ' ';
            }
            for (int i = 0; i < all.length(); i += 20) {
                int[] f = new int[5];
                for (int k = 0; k < 20; k++) {
                    f[k / 4] = f[k / 4] << 8 | all.charAt(i + k);
                }
                due("feed", x.feed(f[0], f[1], f[2], f[3], f[4]), m.feed(f));
            }
            int n = seldom(30) ? text.length() - upTo(4) : seldom(30) ? text.length() + 50 : Math.min(text.length(), 700);
            int want = m.text(n);
            due("text(" + n + ") of " + text, x.text(n), want);
            due("fault(0)", x.fault(0), m.fault(0));
            due("fault(1)", x.fault(1), m.fault(1));
            texts++;
            faults += want < 0 ? 1 : 0;
        }

        String word() {
            String w = "";
            int n = 1 + (seldom(3) ? upTo(5) : 0);
            for (int i = 0; i < n; i++) {
                w += (char) ('a' + upTo(seldom(5) ? 25 : 3));
            }
            return LANGUAGE.contains(w) ? "z" + w.substring(0, 1) : w;
        }

        String someText() {
            List<String> lines = new ArrayList<>();
            int top = seldom(6) ? 2 + upTo(58) : 3 + upTo(9);
            if (!seldom(6)) {
                lines.add("stair " + top);
            } else {
                top = 20;
            }
            List<String> benches = new ArrayList<>();
            List<String> walkers = new ArrayList<>();
            HashSet<Integer> steps = new HashSet<>();
            int nb = seldom(6) ? upTo(8) : 1 + upTo(2);
            for (int i = 0; i < nb; i++) {
                String name = word();
                int step = 1 + upTo(top - 2);
                if (!benches.contains(name) && steps.add(step)) {
                    benches.add(name);
                    lines.add("bench " + name + " " + step + " " + (seldom(3) ? 1 : 2 + upTo(1)));
                }
            }
            int nw = seldom(8) ? upTo(6) : 3 + upTo(3);
            for (int i = 0; i < nw; i++) {
                String name = word();
                if (!walkers.contains(name)) {
                    walkers.add(name);
                    int at = seldom(3) ? upTo(top) : random.nextBoolean() ? 0 : top;
                    int down = seldom(5) ? upTo(1) : at == 0 ? 0 : at == top ? 1 : upTo(1);
                    lines.add("walker " + name + " " + at + " " + down + " " + (1 + upTo(seldom(3) ? 8 : 2)) + " " + upTo(seldom(9) ? 99 : 4));
                }
            }
            int nr = benches.isEmpty() || walkers.isEmpty() ? 0 : seldom(5) ? upTo(12) : 4 + upTo(8);
            for (int i = 0; i < nr; i++) {
                lines.add("rest " + walkers.get(upTo(walkers.size() - 1)) + " " + benches.get(upTo(benches.size() - 1)) + " "
                    + (1 + upTo(random.nextBoolean() ? 29 : 9)));
            }
            if (random.nextBoolean()) {
                lines.add("piano " + (1 + upTo(top - 2)));
            }
            if (random.nextBoolean()) {
                lines.add("call " + (seldom(5) ? 100 : seldom(5) ? 50 : upTo(100)));
            }
            if (random.nextBoolean()) {
                lines.add("seed " + upTo(99999));
            }
            for (String rule : new String[] {"sits", "talk", "wear"}) {
                if (random.nextBoolean()) {
                    lines.add(lines.isEmpty() ? 0 : 1 + upTo(lines.size() - 1), "law " + rule + " " + law());
                }
            }
            if (!lines.isEmpty() && lines.get(0).startsWith("law") && lines.size() > 1 && lines.get(1).startsWith("stair")) {
                lines.add(0, lines.remove(1));
            }
            StringBuilder all = new StringBuilder();
            for (String l : lines) {
                all.append(l).append(seldom(5) ? " ;\n" : ";");
            }
            return all.length() > 695 ? someText() : all.toString();
        }

        String law() {
            if (!seldom(25)) {
                return either(seldom(15) ? 4 : 2);
            }
            StringBuilder many = new StringBuilder(seldom(2) ? "not 1" : "1");
            for (int n = 29 + upTo(4); n > 0; n--) {
                many.append("+-*<".charAt(seldom(40) ? 3 : upTo(2))).append(seldom(20) ? "(full)" : "" + upTo(9));
            }
            return many.toString();
        }

        String either(int deep) {
            return both(deep) + (seldom(5) ? " or " + both(deep) : "");
        }

        String both(int deep) {
            return negated(deep) + (seldom(5) ? " and " + negated(deep) : "");
        }

        String negated(int deep) {
            String[] signs = {"<", "<=", "=", "<>", ">=", ">"};
            return (seldom(6) ? "not " : "") + sum(deep) + (seldom(3) ? signs[upTo(5)] + sum(deep) : "");
        }

        String sum(int deep) {
            return product(deep) + (seldom(3) ? (random.nextBoolean() ? "+" : " - ") + product(deep) : "");
        }

        String product(int deep) {
            return part(deep) + (seldom(3) ? (random.nextBoolean() ? "*" : "/") + part(deep) : "");
        }

        String part(int deep) {
            if (deep > 0 && seldom(3)) {
                return "(" + either(deep - 1) + ")";
            }
            return seldom(2) ? LANGUAGE.get(14 + upTo(6)) : "" + upTo(seldom(4) ? 9999 : 5);
        }

        String spoilt(String text) {
            StringBuilder t = new StringBuilder(text);
            String[] bits = {";", "(", ")", "<", "=", ">", " ", "\n", "\t", "A", "#", "7", "0", "not ", " or ", "stair 9;", "piano 1;",
                "call 3;", "seed 4;", "bench ", "walker ", "rest ", "law ", "aaaaaaa", "a", "minute", "" + (char) 200, "((((((((", "+", "-",
                "1+1+1+1+1+1+1+1+1+1+1+1+1+1+1+1", "bench q 1 1;", "walker q 0 0 1 0;", "99999", "100000", "law talk 1;"};
            int n = upTo(2);
            for (int i = 0; i < n; i++) {
                int at = upTo(t.length());
                int kind = upTo(3);
                if (kind == 0 && at < t.length()) {
                    t.deleteCharAt(at);
                } else if (kind == 1 && at < t.length()) {
                    t.replace(at, at + 1, bits[upTo(bits.length - 1)]);
                } else if (kind == 2) {
                    t.insert(at, bits[upTo(bits.length - 1)]);
                } else {
                    t.setLength(at);
                }
            }
            if (seldom(4)) {
                int from = t.indexOf(";", upTo(t.length()));
                int to = from < 0 ? -1 : t.indexOf(";", from + 1);
                if (to > 0) {
                    t.append(t.substring(from + 1, to + 1));
                }
            }
            if (seldom(5)) {
                StringBuilder many = new StringBuilder();
                for (int i = 0; i < 13; i++) {
                    String name = "" + (char) ('g' + i);
                    int kind = upTo(2);
                    many.append(kind == 0 ? "bench " + name + " " + (i + 1) + " 1;"
                        : kind == 1 ? "walker " + name + " 1 0 1 0;" : "law wear 1;");
                }
                t.append(many);
            }
            if (t.length() > 695) {
                t.setLength(695);
            }
            return t.toString();
        }

        int far(int near, int most) {
            int[] all = {near, most, Integer.MIN_VALUE, Integer.MAX_VALUE, 1 << 16, -(1 << 16)};
            return all[upTo(all.length - 1)];
        }

        int someWalker() {
            return seldom(12) ? upTo(8) - 1 : seldom(30) ? far(-1, 6) : m.now.walkers.isEmpty() ? 0 : upTo(m.now.walkers.size() - 1);
        }

        int someBench() {
            return seldom(12) ? upTo(10) - 1 : seldom(30) ? far(-1, 8) : m.now.benches.isEmpty() ? 0 : upTo(m.now.benches.size() - 1);
        }

        int what(int most) {
            return seldom(25) ? far(-1, most + 1) : upTo(most);
        }

        int span(int most) {
            return seldom(25) ? far(-1, most + 1) : seldom(10) ? most : upTo(Math.min(most, 25));
        }

        void call() {
            int a = someWalker();
            int b = someWalker();
            b = a == b && !seldom(12) && m.now.walkers.size() > 1 ? (a + 1) % m.now.walkers.size() : b;
            int bench = someBench();
            switch (upTo(30)) {
                case 0: case 1: case 2: {
                    int n = seldom(12) ? span(200) : 1 + upTo(1);
                    due("go(" + n + ")", x.go(n), m.go(n));
                    break;
                }
                case 3: case 4: {
                    for (int i = 0; i < m.now.walkers.size() && !seldom(9); i++) {
                        WalkerOf w = m.now.walkers.get(i);
                        a = w.state == 1 && m.now.benchOn(w.step) != null ? i : a;
                    }
                    int minutes = span(30);
                    due("sit(" + a + ", " + minutes + ")", x.sit(a, minutes), m.sit(a, minutes));
                    break;
                }
                case 5: for (int i = 0; i < m.now.walkers.size() && !seldom(9); i++) {
                        a = m.now.walkers.get(i).state == 2 ? i : a;
                    }
                    due("rise(" + a + ")", x.rise(a) ? 1 : 0, m.rise(a) ? 1 : 0); break;
                case 6: {
                    int steps = seldom(9) ? far(-4, 4) : upTo(8) - 4;
                    due("push(" + steps + ")", x.push(steps), m.push(steps));
                    break;
                }
                case 7: due("undo()", x.undo(), m.undo()); break;
                case 8: due("keep()", x.keep(), m.keep()); break;
                case 9: if (seldom(2)) { due("back()", x.back(), m.back()); } break;
                case 10: {
                    int n = span(200);
                    int what = what(3);
                    int i = what == 1 ? bench : a;
                    due("ahead(" + n + ", " + what + ", " + i + ")", x.ahead(n, what, i), m.ahead(n, what, i));
                    break;
                }
                case 11: due("meet(" + a + ", " + b + ")", x.meet(a, b), m.meet(a, b)); break;
                case 12: due("pass(" + a + ", " + b + ")", x.pass(a, b), m.pass(a, b)); break;
                case 13: due("out(" + a + ")", x.out(a), m.out(a)); break;
                case 14: {
                    int what = what(1);
                    due("best(" + a + ", " + bench + ", " + what + ")", x.best(a, bench, what), m.best(a, bench, what));
                    break;
                }
                case 15: {
                    int n = what(60);
                    due("cover(" + n + ")", x.cover(n), m.cover(n));
                    break;
                }
                case 16: due("carry()", x.carry(), m.carry()); break;
                case 17: due("rests(" + a + ", " + b + ")", x.rests(a, b), m.rests(a, b)); break;
                case 18: {
                    int k = seldom(9) ? far(-1, 4) : upTo(4) - 1;
                    due("rest(" + a + ", " + b + ", " + k + ")", x.rest(a, b, k), m.rest(a, b, k));
                    break;
                }
                case 19: {
                    int n = what(6);
                    int what = what(1);
                    due("quiet(" + n + ", " + what + ")", x.quiet(n, what), m.quiet(n, what));
                    break;
                }
                case 20: case 21: see(bench); break;
                case 22: {
                    int i = seldom(9) ? far(-1, 24) : upTo(m.seen.size() + 1) - 1;
                    due("strike(" + i + ")", x.strike(i), m.strike(i));
                    break;
                }
                case 23: {
                    int n = seldom(9) ? far(-2, 25) : upTo(m.seen.size() + 3) - 2;
                    due("known(" + n + ")", x.known(n) ? 1 : 0, m.known(n) ? 1 : 0);
                    break;
                }
                case 24: due("paces(" + a + ")", x.paces(a), m.paces(a)); break;
                case 25: {
                    int seed = seldom(8) ? far(-1, 0) : random.nextInt() >>> 1;
                    int n = span(99);
                    int talk = seldom(9) ? what(9999) : upTo(20);
                    due("chance(" + seed + ", " + n + ", " + talk + ")", x.chance(seed, n, talk), m.chance(seed, n, talk));
                    break;
                }
                case 26: {
                    int what = what(5);
                    int i = what == 2 ? a : seldom(9) ? 1 : 0;
                    int n = span(200);
                    due("tried(" + what + ", " + i + ", " + n + ")", x.tried(what, i, n), m.tried(what, i, n));
                    break;
                }
                case 27: {
                    int what = what(2);
                    due("law(" + what + ", " + a + ", " + bench + ")", x.law(what, a, bench), m.law(what, a, bench));
                    break;
                }
                case 28: names(); break;
                default: look(); break;
            }
        }

        void see(int bench) {
            int minutes = seldom(20) ? far(0, 61) : 1 + upTo(seldom(3) ? 59 : 9);
            World w = m.text.copy();
            w.gained(Math.min(minutes, 61), 0);
            int near = m.isBench(bench) ? w.benches.get(bench).worn + upTo(2) - 1 : 0;
            int worn = seldom(20) ? far(-1, 10000) : near;
            boolean least = random.nextBoolean();
            due("see(" + minutes + ", " + bench + ", " + worn + ", " + least + ")", x.see(minutes, bench, worn, least) ,
                m.see(minutes, bench, worn, least));
        }

        void names() {
            String name = seldom(3) || m.now.walkers.isEmpty() ? word() : m.now.walkers.get(upTo(m.now.walkers.size() - 1)).name;
            name = seldom(2) || m.now.benches.isEmpty() ? name : m.now.benches.get(upTo(m.now.benches.size() - 1)).name;
            int letters = Model.code(name) ^ (seldom(9) ? 1 << upTo(31) : 0);
            int what = what(1);
            due("named(" + what + ", " + letters + ")", x.named(what, letters), m.named(what, letters));
        }

        void look() {
            for (int what = 0; what <= 13; what++) {
                due("count(" + what + ")", x.count(what), m.count(what));
            }
            due("piano()", x.piano(), m.now.piano);
            for (int i = -1; i <= m.now.walkers.size(); i++) {
                for (int what = -1; what <= 7; what++) {
                    long got;
                    try {
                        got = x.walker(i, what);
                    } catch (IndexOutOfBoundsException e) {
                        got = THREW_INDEX;
                    } catch (NoSuchElementException e) {
                        got = THREW_ELEMENT;
                    }
                    due("walker(" + i + ", " + what + ")", got, m.walker(i, what));
                }
            }
            for (int i = -1; i <= m.now.benches.size(); i++) {
                for (int what = -1; what <= 5; what++) {
                    due("bench(" + i + ", " + what + ")", x.bench(i, what), m.bench(i, what));
                }
            }
            for (int i = -1; i <= m.now.rests.size(); i++) {
                for (int what = -1; what <= 4; what++) {
                    due("restOf(" + i + ", " + what + ")", x.restOf(i, what), m.restOf(i, what));
                }
            }
        }
    }
}
