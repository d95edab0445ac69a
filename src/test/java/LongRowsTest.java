import java.util.HashMap;
import java.util.Map;
import java.util.Random;

/**
 * What is worked out on paper of long rows, which Model's searches are too slow for: here runs are taken apart from
 * their right end, where the program takes them apart from their left one, and what a sign costs is asked of the house.
 */
public final class LongRowsTest {
    private static final int RUNS = 3000;
    private static final long NEVER = Long.MAX_VALUE / 8;
    // Costs weigh more than signs, so that one number holds both.
    private static final long BY_COST = 1000;

    private final Random random;
    private final BracketHouse x;
    private final int length;
    private final int[] signs;
    private final String law;
    // Asked once, as a house is used for 512 calls.
    private final long[][] price;
    private final long[] toll;
    private final long[] worth;
    private final Map<Integer, Long> known = new HashMap<>();

    private LongRowsTest(long seed) {
        random = new Random(seed);
        length = 8 + random.nextInt(13);
        signs = new int[length];
        int kinds = 1 + random.nextInt(3);
        int names = random.nextInt(3);
        for (int p = 0; p < length; p++) signs[p] = random.nextInt(6) < names ? 6 + random.nextInt(6) : random.nextInt(2) * 3 + random.nextInt(kinds);
        law = lawText();
        x = Due.under(law, signs);
        price = new long[6][length + 1];
        toll = new long[length];
        worth = new long[length];
    }

    public static void main(String[] args) {
        int runs = args.length > 0 ? Integer.parseInt(args[0]) : RUNS;
        long first = args.length > 1 ? Long.parseLong(args[1]) : 1;
        for (long seed = first; seed < first + runs && Due.allFine(); seed++) {
            new LongRowsTest(seed).all();
            if (!Due.allFine()) System.out.println("seed " + seed);
        }
        numbers();
        Due.close();
    }

    private void all() {
        Due.is("the law in force is " + law, x.count(10), 0);
        askAmounts();
        mended();
        struck();
        played();
    }

    private void askAmounts() {
        for (int sign = 0; sign < 6; sign++) {
            for (int p = 0; p <= length; p++) price[sign][p] = x.asks(sign, p, 3) == 1 ? NEVER : x.asks(sign, p, 0) * BY_COST + 1;
        }
        for (int p = 0; p < length; p++) {
            toll[p] = x.asks(signs[p], p, 1);
            worth[p] = x.asks(signs[p], p, 2);
        }
    }

    private int pick(int n) {
        return random.nextInt(n);
    }

    private String lawText() {
        StringBuilder b = new StringBuilder();
        for (String verb : new String[] {"costs", "strikes", "worth"}) {
            b.append(verb).append(" [sign*").append(pick(50)).append("+place*").append(pick(50)).append("+").append(pick(50)).append("]%").append(1 + pick(pick(2) == 0 ? 4 : 120)).append("; ");
        }
        if (pick(3) > 0) b.append("bars if [sign*").append(pick(50)).append("+place*").append(pick(50)).append("]%").append(2 + pick(9)).append(" = 0; ");
        return b.append("worth 0 if sign = ").append(pick(12)).toString();
    }

    private String told(String call) {
        StringBuilder b = new StringBuilder(call).append(" of");
        for (int sign : signs) b.append(' ').append(sign);
        return b.append(" by ").append(law).toString();
    }

    // ---- mended ----

    private void mended() {
        known.clear();
        long least = mend(0, length);
        boolean can = least < NEVER;
        Due.is(told("mend(0)"), x.mend(0), can ? least / BY_COST : -1);
        Due.is(told("mend(1)"), x.mend(1), can ? least % BY_COST : -1);
        Due.is(told("compare()"), x.compare(0), can ? least / BY_COST : -1);
    }

    /** The least for the places from .. to - 1, by what stands last: the sign at to - 1 or one that is put behind it. */
    private long mend(int from, int to) {
        if (from == to) return 0;
        Long before = known.get(from * 32 + to);
        if (before != null) return before;
        int last = signs[to - 1];
        long least = last > 5 ? mend(from, to - 1) : NEVER;
        for (int k = from; k < to; k++) {
            if (signs[k] < 3) least = Math.min(least, mend(from, k) + mend(k + 1, to) + price[signs[k] + 3][to]);
            if (last > 2 && last < 6) {
                least = Math.min(least, mend(from, k) + price[last - 3][k] + mend(k, to - 1));
                if (signs[k] == last - 3) least = Math.min(least, mend(from, k) + mend(k + 1, to - 1));
            }
        }
        least = Math.min(least, NEVER);
        known.put(from * 32 + to, least);
        return least;
    }

    // ---- struck ----

    private void struck() {
        known.clear();
        Due.is(told("strike(0)"), x.strike(0), strike(0, length));
        boolean[] cut = new boolean[length];
        choose(0, length, cut);
        for (int p = 0; p < length; p++) Due.is(told("strike(1 + " + p + ")"), x.strike(1 + p), cut[p] ? 1 : 0);
    }

    private long strike(int from, int to) {
        if (from == to) return 0;
        Long before = known.get(from * 32 + to);
        if (before != null) return before;
        int last = signs[to - 1];
        long least = strike(from, to - 1) + (last > 5 ? 0 : toll[to - 1]);
        for (int k = from; k < to - 1; k++) {
            if (last > 2 && last < 6 && signs[k] == last - 3) least = Math.min(least, strike(from, k) + strike(k + 1, to - 1));
        }
        known.put(from * 32 + to, least);
        return least;
    }

    private void choose(int from, int to, boolean[] cut) {
        if (from >= to) return;
        if (signs[from] < 3) {
            for (int k = from + 1; k < to; k++) {
                if (signs[k] == signs[from] + 3 && strike(from + 1, k) + strike(k + 1, to) == strike(from, to)) {
                    choose(from + 1, k, cut);
                    choose(k + 1, to, cut);
                    return;
                }
            }
        }
        cut[from] = signs[from] < 6;
        choose(from + 1, to, cut);
    }

    // ---- played ----

    private void played() {
        known.clear();
        Due.is(told("game(0)"), x.game(0), play(0, length));
        long byFirst = worth[0] - play(1, length);
        long byLast = worth[length - 1] - play(0, length - 1);
        Due.is(told("game(1)"), x.game(1), byLast > byFirst ? 1 : 0);
    }

    private long play(int from, int to) {
        if (from == to) return 0;
        Long before = known.get(from * 32 + to);
        if (before != null) return before;
        long best = Math.max(worth[from] - play(from + 1, to), worth[to - 1] - play(from, to - 1));
        known.put(from * 32 + to, best);
        return best;
    }

    // ---- numbers ----

    /** Rows of many pairs: the number of the row of a number, rows in order, each of them one that can be. */
    private static void numbers() {
        Random random = new Random(37);
        for (int n = 1; n <= 12; n++) {
            for (int deep = 1; deep <= 9; deep++) {
                long all = new BracketHouse().rows(n, deep);
                for (int i = 0; i < 6; i++) {
                    long k = i == 0 ? 0 : i == 1 ? all - 1 : Math.floorMod(random.nextLong(), all);
                    int[] row = rowOf(n, deep, k);
                    Due.is("row " + k + " of " + n + " pairs is as deep as told", deepest(row) <= deep ? 1 : 0, 1);
                    if (n <= 10) ranks(row, deep, k);
                    if (k > 0) Due.is("row " + k + " of " + n + " is behind the one ahead of it", java.util.Arrays.compare(rowOf(n, deep, k - 1), row) < 0 ? 1 : 0, 1);
                }
                BracketHouse x = new BracketHouse();
                x.terms(1, deep);
                Due.is("nth() behind the last row of " + n + " pairs", x.nth(n, all, 0), -1);
            }
        }
    }

    /** The number of a row, which it has if DEEP is so much as it needs, else none. */
    private static void ranks(int[] row, int deep, long k) {
        Due.is("rank() of row " + k + " of " + row.length / 2 + " pairs", rank(row, deep), k);
        for (int d = 1; d <= 9; d++) {
            Due.is("row " + k + " of " + row.length / 2 + " pairs has a number at DEEP " + d, rank(row, d) >= 0 ? 1 : 0, deepest(row) <= d ? 1 : 0);
        }
    }

    private static int[] rowOf(int n, int deep, long k) {
        BracketHouse x = new BracketHouse();
        x.terms(1, deep);
        int[] row = new int[2 * n];
        for (int i = 0; i < row.length; i++) row[i] = x.nth(n, k, i);
        return row;
    }

    private static long rank(int[] row, int deep) {
        BracketHouse x = Due.house(row);
        x.terms(1, deep);
        return x.rank();
    }

    /** How many pairs lie within one another; beyond all, if the row is not whole. */
    private static int deepest(int[] row) {
        int[] open = new int[row.length + 1];
        int top = 0;
        int deepest = 0;
        for (int sign : row) {
            if (sign < 0 || sign > 5 || sign > 2 && (top == 0 || open[top - 1] != sign - 3)) return Integer.MAX_VALUE;
            if (sign > 2) top--;
            else open[top++] = sign;
            deepest = Math.max(deepest, top);
        }
        return top == 0 ? deepest : Integer.MAX_VALUE;
    }
}
