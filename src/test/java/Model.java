import java.util.ArrayDeque;
import java.util.ArrayList;
import java.util.Arrays;
import java.util.Collections;
import java.util.Comparator;
import java.util.Deque;
import java.util.HashMap;
import java.util.List;
import java.util.Map;
import java.util.PriorityQueue;
import java.util.Set;
import java.util.HashSet;

/**
 * The document once more, in the slowest and plainest way, for AgreementTest: trees instead of
 * steps, searches instead of tables, copies instead of deeds that are turned back.
 */
final class Model {
    static final class Broken extends Exception {
        private static final long serialVersionUID = 1L;
    }

    static final class Fault extends Exception {
        private static final long serialVersionUID = 1L;
        final int place;

        Fault(int place) {
            this.place = place;
        }
    }

    /** What words tell when a text is worked out. */
    interface Words {
        int tell(String word, int p);
    }

    record Node(String op, int number, List<Node> of) {
        long work(Words words) throws Broken {
            switch (op) {
                case "number": return number;
                case "or":
                    for (Node n : of) if (n.work(words) == 1) return 1;
                    return 0;
                case "and":
                    for (Node n : of) if (n.work(words) == 0) return 0;
                    return 1;
                case "not": return 1 - of.get(0).work(words);
                default:
            }
            if (of.isEmpty()) return words.tell(op, number);
            long a = of.get(0).work(words);
            long b = of.get(1).work(words);
            long r;
            switch (op) {
                case "<": return a < b ? 1 : 0;
                case ">": return a > b ? 1 : 0;
                case "=": return a == b ? 1 : 0;
                case "+": r = a + b; break;
                case "-": r = a - b; break;
                case "*": r = a * b; break;
                case "/": if (b == 0) throw new Broken(); r = a / b; break;
                default: if (b == 0) throw new Broken(); r = a - a / b * b; break;
            }
            if (Math.abs(r) > 1_000_000_000L) throw new Broken();
            return r;
        }
    }

    static final class Clause {
        String verb;
        Node first;
        Node second;
        Node test;
        int times = 1;
    }

    record Token(String text, int start) { }

    static final class Reader {
        static final Set<String> LAW_WORDS = Set.of("sign", "kind", "open", "person", "place", "length", "page", "mood");
        static final Set<String> ORDER_WORDS = Set.of("page", "done", "latest", "length", "loose", "sign", "deep");
        final List<Token> tokens = new ArrayList<>();
        final boolean orders;
        int i = 0;
        int parts = 0;
        int nested = 0;

        Reader(List<Integer> tape, boolean orders) {
            this.orders = orders;
            StringBuilder b = new StringBuilder();
            for (int x : tape) b.append((char) x);
            java.util.regex.Matcher m = java.util.regex.Pattern.compile("[a-z]+|[0-9]+|[^ ]", java.util.regex.Pattern.DOTALL).matcher(b);
            while (m.find()) tokens.add(new Token(m.group(), m.start()));
            tokens.add(new Token("", tape.size()));
        }

        String now() {
            return tokens.get(i).text;
        }

        Fault fault() {
            return new Fault(tokens.get(i).start);
        }

        void must(String s) throws Fault {
            if (!now().equals(s)) throw fault();
            i++;
        }

        int number(int least, int greatest) throws Fault {
            if (!now().matches("[0-9]+")) throw fault();
            java.math.BigInteger n = new java.math.BigInteger(now());
            if (n.compareTo(java.math.BigInteger.valueOf(least)) < 0 || n.compareTo(java.math.BigInteger.valueOf(greatest)) > 0) throw fault();
            i++;
            return n.intValue();
        }

        List<Clause> text() throws Fault {
            List<Clause> all = new ArrayList<>();
            all.add(clause());
            while (!now().isEmpty()) {
                must(";");
                if (all.size() == 12) throw fault();
                all.add(clause());
            }
            return all;
        }

        Clause clause() throws Fault {
            Clause c = new Clause();
            c.verb = now();
            Set<String> verbs = orders ? Set.of("put", "cut", "turn", "pass") : Set.of("costs", "strikes", "worth", "bars");
            if (!verbs.contains(c.verb)) throw fault();
            i++;
            if (!c.verb.equals("pass") && !c.verb.equals("bars")) c.first = sum();
            if (c.verb.equals("put")) {
                must("at");
                c.second = sum();
            }
            if (c.verb.equals("turn")) {
                must("to");
                c.second = sum();
            }
            if (orders && now().equals("times")) {
                i++;
                c.times = number(1, 20);
            }
            if (now().equals("if")) {
                i++;
                c.test = test();
            }
            return c;
        }

        Node test() throws Fault {
            List<Node> of = new ArrayList<>();
            of.add(both());
            while (now().equals("or")) {
                i++;
                of.add(both());
            }
            return new Node("or", 0, of);
        }

        Node both() throws Fault {
            List<Node> of = new ArrayList<>();
            of.add(plain());
            while (now().equals("and")) {
                i++;
                of.add(plain());
            }
            return new Node("and", 0, of);
        }

        Node plain() throws Fault {
            if (now().equals("not")) {
                i++;
                return new Node("not", 0, List.of(plain()));
            }
            if (now().equals("(")) {
                if (++nested > 8) throw fault();
                i++;
                Node n = test();
                must(")");
                nested--;
                return n;
            }
            Node a = sum();
            String op = now();
            if (!op.equals("<") && !op.equals(">") && !op.equals("=")) throw fault();
            i++;
            return new Node(op, 0, List.of(a, sum()));
        }

        Node sum() throws Fault {
            Node n = term();
            while (now().equals("+") || now().equals("-")) {
                String op = tokens.get(i++).text;
                n = new Node(op, 0, List.of(n, term()));
            }
            return n;
        }

        Node term() throws Fault {
            Node n = part();
            while (now().equals("*") || now().equals("/") || now().equals("%")) {
                String op = tokens.get(i++).text;
                n = new Node(op, 0, List.of(n, part()));
            }
            return n;
        }

        Node part() throws Fault {
            if (now().equals("[")) {
                if (++nested > 8) throw fault();
                i++;
                Node n = sum();
                must("]");
                nested--;
                return n;
            }
            String t = now();
            boolean word = (orders ? ORDER_WORDS : LAW_WORDS).contains(t);
            boolean digits = t.matches("[0-9]+");
            if (!word && !digits) throw fault();
            if (++parts > 50) throw fault();
            if (digits) return new Node("number", number(0, 1000), List.of());
            i++;
            int p = orders && (t.equals("sign") || t.equals("deep")) ? number(0, 19) : -1;
            return new Node(t, p, List.of());
        }
    }

    /** All that an image keeps. */
    static final class World {
        List<Integer> row = new ArrayList<>();
        int[] terms = {0, 4, 0};
        List<List<Clause>> laws = new ArrayList<>();
        int force = -1;

        World copy() {
            World w = new World();
            w.row = new ArrayList<>(row);
            w.terms = terms.clone();
            w.laws = new ArrayList<>(laws);
            w.force = force;
            return w;
        }

        List<Clause> inForce() {
            return force < 0 ? List.of() : laws.get(force);
        }
    }

    record Undo(int kind, List<Integer> row, int page) { }

    World w = new World();
    final List<Integer> tape = new ArrayList<>();
    List<Undo> undos = new ArrayList<>();
    final World[] images = new World[2];
    World readersEnd = null;
    int blots = 0;
    int fault = -1;
    int stopped = -1;
    int status = 0;
    final Map<Integer, Integer> refusals = new HashMap<>();

    int done(int answer) {
        status = 0;
        return answer;
    }

    int refused(int by) {
        status = by;
        refusals.merge(by, 1, Integer::sum);
        return by;
    }

    // ---- rows ----

    static int[] mates(List<Integer> row) {
        int[] mate = new int[row.size()];
        Arrays.fill(mate, -1);
        for (int i = 0; i < row.size(); i++) {
            int s = row.get(i);
            if (s < 3 || s > 5) continue;
            for (int j = i - 1; j >= 0; j--) {
                if (row.get(j) < 3 && mate[j] < 0) {
                    if (row.get(j) == s - 3) {
                        mate[j] = i;
                        mate[i] = j;
                    }
                    break;
                }
            }
        }
        return mate;
    }

    static int depth(List<Integer> row, int p) {
        int[] mate = mates(row);
        int d = 0;
        for (int i = 0; i < p; i++) if (mate[i] > p) d++;
        return d;
    }

    static int loose(List<Integer> row) {
        int[] mate = mates(row);
        int n = 0;
        for (int i = 0; i < row.size(); i++) if (row.get(i) < 6 && mate[i] < 0) n++;
        return n;
    }

    /** By crossing out neighbours that fit, until nothing changes. */
    static boolean isWhole(List<Integer> row) {
        List<Integer> left = new ArrayList<>();
        for (int s : row) if (s < 6) left.add(s);
        boolean changed = true;
        while (changed) {
            changed = false;
            for (int i = 0; i + 1 < left.size(); i++) {
                if (left.get(i) < 3 && left.get(i + 1) == left.get(i) + 3) {
                    left.remove(i + 1);
                    left.remove(i);
                    changed = true;
                    break;
                }
            }
        }
        return left.isEmpty();
    }

    // ---- laws ----

    static Words wordsOf(World w, int sign, int place) {
        return (word, p) -> {
            switch (word) {
                case "sign": return sign;
                case "kind": return sign > 5 ? -1 : sign > 2 ? sign - 3 : sign;
                case "open": return sign <= 2 ? 1 : 0;
                case "person": return sign > 5 ? sign - 6 : -1;
                case "place": return place;
                case "length": return w.row.size();
                case "page": return w.terms[0];
                default: return w.terms[2];
            }
        };
    }

    static final String[] VERBS = {"costs", "strikes", "worth", "bars"};

    static int tells(World w, List<Clause> law, int sign, int place, int what) {
        int answer = what == 3 ? 0 : 1;
        Words words = wordsOf(w, sign, place);
        for (Clause c : law) {
            if (!c.verb.equals(VERBS[what])) continue;
            try {
                if (c.test != null && c.test.work(words) == 0) continue;
                answer = what == 3 ? 1 : (int) Math.max(0, Math.min(99, c.first.work(words)));
            } catch (Broken b) {
                continue;
            }
        }
        return answer;
    }

    int tells(int sign, int place, int what) {
        return tells(w, w.inForce(), sign, place, what);
    }

    // ---- calls ----

    int terms(int what, int value) {
        int[] least = {0, 1, 0};
        int[] most = {999, 9, 9};
        if (what < 0 || what > 2 || value < least[what] || value > most[what]) return refused(-1);
        int was = w.terms[what];
        w.terms[what] = value;
        undos.clear();
        return done(was);
    }

    int feed(int a, int b, int c, int d, int e) {
        if (tape.size() > 380) return -1;
        for (int x : new int[] {a, b, c, d, e}) for (byte y : java.nio.ByteBuffer.allocate(4).putInt(x).array()) tape.add(y & 255);
        return tape.size();
    }

    int end(int n) {
        if (n < 0 || n > tape.size()) return -1;
        while (tape.size() > n) tape.remove(tape.size() - 1);
        return n;
    }

    int row() {
        if (tape.isEmpty()) return refused(-6);
        int came = 0;
        blots = 0;
        for (int b : tape) {
            if (b <= 11 && w.row.size() < 20) {
                w.row.add(b);
                came++;
            } else {
                blots++;
            }
        }
        tape.clear();
        undos.clear();
        return done(came);
    }

    private List<Clause> read(boolean orders) {
        fault = -1;
        try {
            return new Reader(tape, orders).text();
        } catch (Fault f) {
            fault = f.place;
            return null;
        } finally {
            tape.clear();
        }
    }

    int law() {
        if (w.laws.size() == 6) {
            tape.clear();
            return refused(-5);
        }
        List<Clause> law = read(false);
        if (law == null) return refused(-6);
        w.laws.add(law);
        return done(w.laws.size() - 1);
    }

    int orders() {
        stopped = -1;
        List<Clause> text = read(true);
        if (text == null) return refused(-6);
        World before = w.copy();
        List<Undo> undosBefore = new ArrayList<>(undos);
        int[] doneLatest = {0, -1};
        Words words = (word, p) -> {
            boolean there = p >= 0 && p < w.row.size();
            switch (word) {
                case "page": return w.terms[0];
                case "done": return doneLatest[0];
                case "latest": return doneLatest[1];
                case "length": return w.row.size();
                case "loose": return loose(w.row);
                case "sign": return there ? w.row.get(p) : -1;
                default: return there ? depth(w.row, p) : -1;
            }
        };
        for (int c = 0; c < text.size(); c++) {
            for (int t = 0; t < text.get(c).times; t++) {
                if (!runOne(text.get(c), words, doneLatest)) {
                    w = before;
                    undos = undosBefore;
                    stopped = c;
                    return refused(-3);
                }
            }
        }
        return done(doneLatest[0]);
    }

    private boolean runOne(Clause c, Words words, int[] doneLatest) {
        try {
            if (c.test != null && c.test.work(words) == 0) return true;
        } catch (Broken b) {
            return true;
        }
        int r;
        try {
            int a = c.first == null ? 0 : (int) c.first.work(words);
            int b = c.second == null ? 0 : (int) c.second.work(words);
            switch (c.verb) {
                case "put": r = putOn(w, a, b); break;
                case "cut": r = cutOn(w, a); break;
                case "turn": r = turnOn(w, a, b); break;
                default: r = passOn(w); break;
            }
        } catch (Broken b) {
            return false;
        }
        if (r < 0) return false;
        if (c.verb.equals("put")) doneLatest[1] = r;
        doneLatest[0]++;
        return true;
    }

    int force(int law) {
        if (law < -1 || law >= w.laws.size()) return refused(-2);
        int was = w.force;
        w.force = law;
        return done(was);
    }

    int asks(int sign, int place, int what) {
        if (sign < 0 || sign > 11 || place < 0 || place > w.row.size() || what < 0 || what > 3) return -1;
        return tells(sign, place, what);
    }

    private void note(World x, int kind) {
        if (x != w) return;
        undos.add(new Undo(kind, new ArrayList<>(w.row), w.terms[0]));
        if (undos.size() > 16) undos.remove(0);
    }

    int putOn(World x, int sign, int place) {
        if (sign < 0 || sign > 11) return -1;
        if (place < 0 || place > x.row.size()) return -2;
        if (tells(x, x.inForce(), sign, place, 3) == 1) return -3;
        if (x.row.size() == 20) return -5;
        int cost = tells(x, x.inForce(), sign, place, 0);
        note(x, 0);
        x.row.add(place, sign);
        return cost;
    }

    int cutOn(World x, int place) {
        if (place < 0 || place >= x.row.size()) return -2;
        int cost = tells(x, x.inForce(), x.row.get(place), place, 1);
        note(x, 1);
        x.row.remove(place);
        return cost;
    }

    int turnOn(World x, int place, int sign) {
        if (sign < 0 || sign > 11) return -1;
        if (place < 0 || place >= x.row.size()) return -2;
        if (x.row.get(place) == sign || tells(x, x.inForce(), sign, place, 3) == 1) return -3;
        note(x, 2);
        return x.row.set(place, sign);
    }

    int passOn(World x) {
        if (x.terms[0] == 999) return -3;
        note(x, 3);
        return ++x.terms[0];
    }

    int told(int r) {
        return r < 0 ? refused(r) : done(r);
    }

    int undo() {
        if (undos.isEmpty()) return refused(-3);
        Undo u = undos.remove(undos.size() - 1);
        w.row = new ArrayList<>(u.row);
        w.terms[0] = u.page;
        return done(u.kind);
    }

    int at(int place, int what) {
        if (place < 0 || place >= w.row.size() || what < 0 || what > 3) return -1;
        int mate = mates(w.row)[place];
        if (what == 0) return w.row.get(place);
        if (what == 1) return mate;
        if (what == 2) return depth(w.row, place);
        return w.row.get(place) < 6 && mate < 0 ? 1 : 0;
    }

    int said() {
        int bits = 0;
        for (int p = 0; p < w.row.size(); p++) if (w.row.get(p) > 5 && depth(w.row, p) == 0) bits |= 1 << w.row.get(p) - 6;
        return bits;
    }

    int whole(int first, int last) {
        if (first < 0 || last >= w.row.size() || last < first) return -1;
        return isWhole(w.row.subList(first, last + 1)) ? 1 : 0;
    }

    /** The cheapest way through all rows that come of putting, sign by sign. */
    int[] mended(List<Clause> law) {
        record Way(int i, String open, int cost, int signs) { }
        int brackets = 0;
        for (int s : w.row) if (s < 6) brackets++;
        PriorityQueue<Way> queue = new PriorityQueue<>(Comparator.comparingInt(Way::cost).thenComparingInt(Way::signs));
        Set<String> seen = new HashSet<>();
        int[][] price = new int[6][w.row.size() + 1];
        for (int s = 0; s < 6; s++) {
            for (int g = 0; g <= w.row.size(); g++) price[s][g] = tells(w, law, s, g, 3) == 1 ? -1 : tells(w, law, s, g, 0);
        }
        queue.add(new Way(0, "", 0, 0));
        while (!queue.isEmpty()) {
            Way y = queue.poll();
            if (!seen.add(y.i + "/" + y.open)) continue;
            if (y.i == w.row.size() && y.open.isEmpty()) return new int[] {y.cost, y.signs};
            String open = y.open;
            if (y.i < w.row.size()) {
                int s = w.row.get(y.i);
                if (s > 5) queue.add(new Way(y.i + 1, open, y.cost, y.signs));
                else if (s < 3) queue.add(new Way(y.i + 1, open + s, y.cost, y.signs));
                else if (open.endsWith("" + (s - 3))) queue.add(new Way(y.i + 1, open.substring(0, open.length() - 1), y.cost, y.signs));
            }
            for (int s = 0; s < 3; s++) {
                if (price[s][y.i] >= 0 && open.length() < brackets) queue.add(new Way(y.i, open + s, y.cost + price[s][y.i], y.signs + 1));
                if (price[s + 3][y.i] >= 0 && open.endsWith("" + s)) {
                    queue.add(new Way(y.i, open.substring(0, open.length() - 1), y.cost + price[s + 3][y.i], y.signs + 1));
                }
            }
        }
        return null;
    }

    int mend(int what) {
        int[] m = mended(w.inForce());
        return m == null || what < 0 || what > 1 ? -1 : m[what];
    }

    int compare(int law) {
        if (law < -1 || law >= w.laws.size()) return -1;
        int[] m = mended(law < 0 ? List.of() : w.laws.get(law));
        return m == null ? -1 : m[0];
    }

    /** By trying every set of signs to strike out of the places from .. to - 1. */
    int leastStruck(int from, int to) {
        List<Integer> at = new ArrayList<>();
        for (int p = from; p < to; p++) if (w.row.get(p) < 6) at.add(p);
        int least = Integer.MAX_VALUE;
        for (int set = 0; set < 1 << at.size(); set++) {
            int cost = 0;
            List<Integer> rest = new ArrayList<>();
            for (int k = 0; k < at.size(); k++) {
                int p = at.get(k);
                if ((set >> k & 1) == 1) cost += tells(w.row.get(p), p, 1);
                else rest.add(w.row.get(p));
            }
            if (cost < least && isWhole(rest)) least = cost;
        }
        return least;
    }

    void chooseStruck(int from, int to, boolean[] cut) {
        if (from >= to) return;
        int s = w.row.get(from);
        if (s < 3) {
            int least = leastStruck(from, to);
            for (int k = from + 1; k < to; k++) {
                if (w.row.get(k) == s + 3 && leastStruck(from + 1, k) + leastStruck(k + 1, to) == least) {
                    chooseStruck(from + 1, k, cut);
                    chooseStruck(k + 1, to, cut);
                    return;
                }
            }
        }
        cut[from] = s < 6;
        chooseStruck(from + 1, to, cut);
    }

    int strike(int what) {
        if (what < 0 || what > w.row.size()) return -1;
        if (what == 0) return leastStruck(0, w.row.size());
        boolean[] cut = new boolean[w.row.size()];
        chooseStruck(0, w.row.size(), cut);
        return cut[what - 1] ? 1 : 0;
    }

    int run(int what) {
        if (what < 0 || what > 1) return -1;
        for (int n = w.row.size(); n > 0; n--) {
            for (int f = 0; f + n <= w.row.size(); f++) if (isWhole(w.row.subList(f, f + n))) return what == 0 ? n : f;
        }
        return what == 0 ? 0 : -1;
    }

    int fits(int place) {
        if (place < 0 || place >= w.row.size()) return -1;
        int bits = 0;
        for (int s = 0; s < 6; s++) {
            List<Integer> r = new ArrayList<>(w.row);
            r.set(place, s);
            if (isWhole(r)) bits |= 1 << s;
        }
        return bits;
    }

    /** All whole rows of n pairs, in order, by writing them out. */
    static List<List<Integer>> list(int n, int deep) {
        List<List<Integer>> all = new ArrayList<>();
        write(n, deep, new ArrayList<>(), new ArrayDeque<>(), all);
        return all;
    }

    private static void write(int opens, int deep, List<Integer> row, Deque<Integer> open, List<List<Integer>> all) {
        if (opens == 0 && open.isEmpty()) {
            all.add(new ArrayList<>(row));
            return;
        }
        for (int s = 0; s < 6; s++) {
            if (s < 3 && opens > 0 && open.size() < deep) {
                row.add(s);
                open.push(s);
                write(opens - 1, deep, row, open, all);
                open.pop();
                row.remove(row.size() - 1);
            } else if (s > 2 && !open.isEmpty() && open.peek() == s - 3) {
                row.add(s);
                open.pop();
                write(opens, deep, row, open, all);
                open.push(s - 3);
                row.remove(row.size() - 1);
            }
        }
    }

    long rank() {
        if (w.row.size() % 2 == 1 || w.row.size() > 12) return -1;
        return list(w.row.size() / 2, w.terms[1]).indexOf(w.row);
    }

    int best(int from, int to) {
        if (from == to) return 0;
        int first = tells(w.row.get(from), from, 2) - best(from + 1, to);
        int last = tells(w.row.get(to - 1), to - 1, 2) - best(from, to - 1);
        return Math.max(first, last);
    }

    int game(int what) {
        int n = w.row.size();
        if (what == 0) return best(0, n);
        if (what != 1 || n == 0) return -100000;
        return tells(w.row.get(0), 0, 2) - best(1, n) >= tells(w.row.get(n - 1), n - 1, 2) - best(0, n - 1) ? 0 : 1;
    }

    int hide(int people, int what) {
        if (people < 0 || people > 63 || what < 0 || what > 3) return -1;
        List<Integer> names = new ArrayList<>();
        for (int p = 0; p < w.row.size(); p++) {
            if (w.row.get(p) > 5 && (people >> w.row.get(p) - 6 & 1) == 1 && depth(w.row, p) == 0) names.add(p);
        }
        if (names.isEmpty()) return -1;
        List<int[]> all = new ArrayList<>();
        for (int kind = 0; kind < 3; kind++) {
            for (int a = 0; a <= w.row.size(); a++) {
                for (int b = a + 1; b <= w.row.size(); b++) {
                    if (a > Collections.min(names) || b <= Collections.max(names)) continue;
                    if (!isWhole(w.row.subList(a, b))) continue;
                    if (tells(kind, a, 3) == 1 || tells(kind + 3, b, 3) == 1) continue;
                    all.add(new int[] {tells(kind, a, 0) + tells(kind + 3, b, 0), kind, a, b});
                }
            }
        }
        if (all.isEmpty()) return -1;
        return Collections.min(all, Arrays::compare)[what];
    }

    static long likely(int n) {
        if (n < 0 || n > 60) return -1;
        Map<Integer, Long> now = new HashMap<>(Map.of(0, 1_000_000_000_000L));
        for (int i = 0; i < n; i++) {
            Map<Integer, Long> then = new HashMap<>();
            now.forEach((open, part) -> {
                then.merge(open + 1, part * 3 / 6, Long::sum);
                if (open > 0) then.merge(open - 1, part / 6, Long::sum);
            });
            now = then;
        }
        return now.getOrDefault(0, 0L);
    }

    int readers(int seed, int n) {
        if (seed < 0 || seed > 1_000_000 || n < 1 || n > 60) return refused(-1);
        World x = w.copy();
        long[] s = {seed};
        int wholes = 0;
        for (int i = 0; i < n; i++) {
            if (x.terms[0] == 999) break;
            int d = draw(s, 3);
            if (d == 0) {
                int sign = draw(s, 6);
                int place = draw(s, x.row.size() + 1);
                putOn(x, sign, place);
            } else if (d == 1 && !x.row.isEmpty()) {
                cutOn(x, draw(s, x.row.size()));
            }
            passOn(x);
            if (isWhole(x.row)) wholes++;
        }
        readersEnd = x;
        return done(wholes);
    }

    private static int draw(long[] s, int m) {
        s[0] = (s[0] * 1103 + 12345) % 1_000_003;
        return (int) (s[0] % m);
    }

    int drawn(int what) {
        if (readersEnd == null || what < 0) return -1;
        if (what == 0) return readersEnd.row.size();
        if (what == 1) return loose(readersEnd.row);
        return what - 2 < readersEnd.row.size() ? readersEnd.row.get(what - 2) : -1;
    }

    int image(int k) {
        if (k != 0 && k != 1) return refused(-1);
        images[k] = w.copy();
        return done(0);
    }

    int back(int k) {
        if (k != 0 && k != 1) return refused(-1);
        if (images[k] == null) return refused(-2);
        w = images[k].copy();
        undos.clear();
        return done(0);
    }

    int count(int what) {
        switch (what) {
            case 0: return w.row.size();
            case 1: return loose(w.row);
            case 2: return w.laws.size();
            case 3: return undos.size();
            case 4: return tape.size();
            case 5: return refusals.getOrDefault(-1, 0);
            case 6: return refusals.getOrDefault(-2, 0);
            case 7: return refusals.getOrDefault(-3, 0);
            case 8: return refusals.getOrDefault(-5, 0);
            case 9: return refusals.getOrDefault(-6, 0);
            case 10: return w.force;
            case 11: return w.terms[0];
            case 12: return w.terms[1];
            case 13: return w.terms[2];
            default: return -1;
        }
    }
}
