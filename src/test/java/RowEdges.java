/** Edges of promises 18 to 24: what is paired, how deep it lies, what is said, whole, mended, struck, the longest run, what fits. */
final class RowEdges {
    private static final int[] ENDS = {Integer.MIN_VALUE, Integer.MAX_VALUE};
    private static final int[] ALL_OPEN = Houses.times(20, 2);
    private static final int[] ALL_CLOSE = Houses.times(20, 5);

    private RowEdges() { }

    static void all() {
        at();
        atWithout();
        paired();
        deep();
        loose();
        said();
        whole();
        wholeWithout();
        mend();
        mendBarred();
        mendFewest();
        mendWithout();
        strike();
        strikeWhich();
        strikeWithout();
        run();
        runWithout();
        fits();
        fitsWithout();
    }

    /** Ten pairs, each within the one ahead of it. */
    static int[] nested(int kind) {
        int[] signs = new int[20];
        for (int i = 0; i < 20; i++) signs[i] = i < 10 ? kind : kind + 3;
        return signs;
    }

    private static void at() {
        Edge.of(18, "Of a PLACE the SIGN (what 0), the PLACE it is PAIRED with (1; NONE), how DEEP it lies (2), whether it is LOOSE (3: 1, 0).");
        int[][] due = {{8, -1, 0, 0}, {6, -1, 0, 0}, {3, -1, 0, 1}, {1, -1, 0, 1}};
        for (int p = 0; p < 4; p++) {
            for (int what = 0; what < 4; what++) {
                int place = p;
                int w = what;
                Edge.asked(Houses::lived, "at(" + p + ", " + what + ")", x -> x.at(place, w), due[p][what]);
            }
        }
        BracketHouse x = Due.house(nested(0));
        Edge.is("at(0, 1)", x.at(0, 1), 19);
        Edge.is("at(19, 1)", x.at(19, 1), 0);
        Edge.is("at(19, 0)", x.at(19, 0), 3);
        for (int sign = 0; sign < 12; sign++) Edge.is("at(0, 0) of " + sign, Due.house(sign).at(0, 0), sign);
    }

    private static void atWithout() {
        Edge.of(18, "NONE.");
        for (int what = 0; what < 4; what++) {
            int w = what;
            Edge.asked(Houses::lived, "at(-1, " + what + ")", x -> x.at(-1, w), -1);
            Edge.asked(Houses::lived, "at(4, " + what + ")", x -> x.at(4, w), -1);
            Edge.asked(Houses::full, "at(20, " + what + ")", x -> x.at(20, w), -1);
            Edge.asked(Houses::bare, "at(0, " + what + ")", x -> x.at(0, w), -1);
            for (int place : ENDS) Edge.asked(Houses::lived, "at(" + place + ", " + what + ")", x -> x.at(place, w), -1);
        }
        for (int what : new int[] {-1, 4, Integer.MIN_VALUE, Integer.MAX_VALUE}) Edge.asked(Houses::lived, "at(0, " + what + ")", x -> x.at(0, what), -1);
        BracketHouse x = Due.house(6, 7);
        x.cut(1);
        Edge.is("at(1, 0) of one that is cut", x.at(1, 0), -1);
    }

    private static void matesAre(String name, int[] signs, int... mates) {
        BracketHouse x = Due.house(signs);
        for (int p = 0; p < signs.length; p++) Edge.is("at(" + p + ", 1) of " + name, x.at(p, 1), mates[p]);
    }

    private static void paired() {
        Edge.of(18, "PAIRED, from the left on: one that CLOSES with the latest one that OPENS and is not PAIRED yet, if that has its KIND.");
        for (int kind = 0; kind < 3; kind++) {
            for (int other = 0; other < 3; other++) {
                boolean fits = kind == other;
                matesAre(kind + " and " + (other + 3), new int[] {kind, other + 3}, fits ? 1 : -1, fits ? 0 : -1);
            }
        }
        matesAre("the latest", new int[] {0, 0, 3}, -1, 2, 1);
        matesAre("not paired yet", new int[] {0, 0, 3, 3}, 3, 2, 1, 0);
        matesAre("the latest has another kind", new int[] {0, 1, 3}, -1, -1, -1);
        matesAre("one of another kind is passed by", new int[] {0, 4, 3}, 2, -1, 0);
        matesAre("crossed", new int[] {0, 1, 3, 4}, -1, 3, -1, 1);
        matesAre("closed ahead of it", new int[] {3, 0}, -1, -1);
        matesAre("names between", new int[] {0, 6, 3}, 2, -1, 0);
        pairedAnew();
        int[] mates = new int[20];
        for (int i = 0; i < 20; i++) mates[i] = 19 - i;
        for (int kind = 0; kind < 3; kind++) matesAre("ten within one another", nested(kind), mates);
    }

    private static void pairIs(String name, BracketHouse x, int mate, int loose) {
        Edge.is("at(0, 1) " + name, x.at(0, 1), mate);
        Edge.is("at(0, 3) " + name, x.at(0, 3), mate < 0 ? 1 : 0);
        Edge.is("count(1) " + name, x.count(1), loose);
    }

    /** What is paired is asked ahead of each change and behind it. */
    private static void pairedAnew() {
        BracketHouse x = Due.house(0, 3);
        x.image(0);
        pairIs("at first", x, 1, 0);
        x.turn(1, 4);
        pairIs("behind turn()", x, -1, 2);
        x.undo();
        pairIs("behind undo() of it", x, 1, 0);
        x.put(1, 1);
        pairIs("behind put()", x, -1, 3);
        x.undo();
        pairIs("behind undo() of it", x, 1, 0);
        x.cut(1);
        pairIs("behind cut()", x, -1, 1);
        x.undo();
        pairIs("behind undo() of it", x, 1, 0);
        Due.orders(x, "turn 1 to 5; cut 9");
        pairIs("behind orders that can't be", x, 1, 0);
        Due.orders(x, "turn 1 to 5");
        pairIs("behind orders", x, -1, 2);
        x.back(0);
        pairIs("behind back()", x, 1, 0);
        x.cut(1);
        pairIs("behind cut()", x, -1, 1);
        Due.row(x, 3);
        pairIs("behind row()", x, 1, 0);
        x.readers(ReaderEdges.seedOf(1), 1);
        pairIs("behind readers()", x, 1, 0);
    }

    private static void deep() {
        Edge.of(18, "A PLACE lies so DEEP as there are PAIRS ahead of which it is and behind the other one of which.");
        BracketHouse x = Due.house(nested(1));
        for (int p = 0; p < 20; p++) Edge.is("at(" + p + ", 2) of ten within one another", x.at(p, 2), p < 10 ? p : 19 - p);
        x = Due.house(ALL_OPEN);
        Edge.is("at(19, 2) behind loose ones", x.at(19, 2), 0);
        // ( name ] name ) name [ name: the first two names and the loose ] lie within the pair.
        int[] signs = {0, 6, 4, 6, 3, 6, 1, 6};
        int[] want = {0, 1, 1, 1, 0, 0, 0, 0};
        x = Due.house(signs);
        for (int p = 0; p < 8; p++) Edge.is("at(" + p + ", 2)", x.at(p, 2), want[p]);
        // The one that is loose makes nothing deeper, the one that is paired does.
        x = Due.house(0, 0, 6, 3);
        Edge.is("at(2, 2) within one pair and behind a loose one", x.at(2, 2), 1);
        Edge.is("at(1, 2)", x.at(1, 2), 0);
    }

    private static void loose() {
        Edge.of(18, "One that OPENS or CLOSES and is not PAIRED is LOOSE.");
        for (int sign = 0; sign < 12; sign++) Edge.is("at(0, 3) of " + sign, Due.house(sign).at(0, 3), sign < 6 ? 1 : 0);
        BracketHouse x = Due.house(2, 5, 5);
        Edge.is("at(0, 3)", x.at(0, 3), 0);
        Edge.is("at(1, 3)", x.at(1, 3), 0);
        Edge.is("at(2, 3)", x.at(2, 3), 1);
        for (int p : new int[] {0, 19}) {
            Edge.is("at(" + p + ", 3) of 20 that open", Due.house(ALL_OPEN).at(p, 3), 1);
            Edge.is("at(" + p + ", 3) of 20 that close", Due.house(ALL_CLOSE).at(p, 3), 1);
            Edge.is("at(" + p + ", 3) of ten pairs", Due.house(nested(2)).at(p, 3), 0);
        }
    }

    private static void said() {
        Edge.of(19, "SAID: PEOPLE, as bits.");
        Edge.asked(BracketHouse::new, "said() of an empty row", BracketHouse::said, 0);
        Edge.asked(Houses::lived, "said()", BracketHouse::said, 5);
        for (int sign = 0; sign < 12; sign++) Edge.is("said() of " + sign, Due.house(sign).said(), sign < 6 ? 0 : 1 << sign - 6);
        Edge.is("said() of all", Due.house(6, 7, 8, 9, 10, 11).said(), 63);
        Edge.is("said() of 20 names of one", Houses.of(20, 11).said(), 32);
        Edge.of(19, "SAID: PEOPLE of whom a NAME lies 0 DEEP.");
        Edge.is("1 deep", Due.house(0, 6, 3).said(), 0);
        Edge.is("ahead of the pair", Due.house(6, 0, 3).said(), 1);
        Edge.is("behind the pair", Due.house(0, 3, 6).said(), 1);
        Edge.is("one within and one without", Due.house(0, 6, 3, 6).said(), 1);
        Edge.is("within one that is loose", Due.house(0, 6, 4).said(), 1);
        Edge.is("within two pairs", Due.house(0, 1, 6, 4, 3, 7).said(), 2);
        Edge.is("within a pair that is behind a loose one", Due.house(1, 0, 6, 3).said(), 0);
    }

    private static void wholeIs(String name, int want, int first, int last, int... signs) {
        Edge.is("whole(" + first + ", " + last + ") of " + name, Due.house(signs).whole(first, last), want);
    }

    private static void whole() {
        Edge.of(20, "Whether the run of PLACES from one up to another one is WHOLE (1, 0).");
        Edge.asked(Houses::lived, "whole(0, 1)", x -> x.whole(0, 1), 1);
        Edge.asked(Houses::lived, "whole(0, 2)", x -> x.whole(0, 2), 0);
        Edge.asked(Houses::lived, "whole(3, 3)", x -> x.whole(3, 3), 0);
        Edge.asked(Houses::lived, "whole(0, 0)", x -> x.whole(0, 0), 1);
        wholeIs("ten pairs", 1, 0, 19, nested(0));
        wholeIs("ten pairs, all but the last", 0, 0, 18, nested(0));
        wholeIs("ten pairs, all but the first", 0, 1, 19, nested(0));
        wholeIs("ten pairs, the inmost", 1, 9, 10, nested(0));
        wholeIs("20 that open", 0, 0, 19, ALL_OPEN);
        wholeIs("20 that close", 0, 0, 19, ALL_CLOSE);
        Edge.of(20, "A ROW, a run of PLACES is WHOLE, if in it, read by itself, nothing is LOOSE (without SIGNS, too).");
        wholeIs("a run whose row is not whole", 1, 1, 2, 3, 0, 3, 0);
        wholeIs("one of a pair", 0, 0, 0, 0, 3);
        wholeIs("both of a pair that is none in the row", 1, 1, 2, 0, 1, 4);
        wholeIs("crossed", 0, 0, 3, 0, 1, 3, 4);
        wholeIs("wrong kind", 0, 0, 1, 0, 5);
        for (int sign = 0; sign < 12; sign++) wholeIs("" + sign, sign < 6 ? 0 : 1, 0, 0, sign);
        Edge.is("a row without signs is whole: readers() of what is cut", withoutSigns(), 1);
    }

    /** A row that becomes empty on paper: how often it was whole at the end of a page. */
    private static int withoutSigns() {
        int seed = ReaderEdges.seedOf(1);
        return Due.house(0).readers(seed, 1);
    }

    private static void wholeWithout() {
        Edge.of(20, "NONE (no such PLACES; the second below the first).");
        int[][] beyond = {{-1, 0}, {0, 4}, {4, 4}, {-1, -1}, {1, 0}, {3, 2}, {3, 0}, {4, 3}, {0, -1}, {Integer.MIN_VALUE, 0}, {0, Integer.MAX_VALUE},
            {Integer.MIN_VALUE, Integer.MAX_VALUE}, {Integer.MAX_VALUE, Integer.MIN_VALUE}};
        for (int[] b : beyond) Edge.asked(Houses::lived, "whole(" + b[0] + ", " + b[1] + ")", x -> x.whole(b[0], b[1]), -1);
        Edge.asked(Houses::bare, "whole(0, 0) of an empty row", x -> x.whole(0, 0), -1);
        Edge.asked(Houses::bare, "whole(0, -1) of an empty row", x -> x.whole(0, -1), -1);
        Edge.asked(Houses::full, "whole(0, 20) of a full row", x -> x.whole(0, 20), -1);
        Edge.asked(Houses::full, "whole(20, 20) of a full row", x -> x.whole(20, 20), -1);
    }

    private static void mendIs(String name, int cost, int signs, Edge.Made made) {
        Edge.asked(made, "mend(0) of " + name, x -> x.mend(0), cost);
        Edge.asked(made, "mend(1) of " + name, x -> x.mend(1), signs);
    }

    private static void mend() {
        Edge.of(21, "MENDED: what it COSTS (what 0), how many SIGNS (1).");
        mendIs("an empty row", 0, 0, BracketHouse::new);
        mendIs("a whole row", 0, 0, () -> Due.house(nested(0)));
        mendIs("20 names", 0, 0, () -> Houses.of(20, 6));
        mendIs("20 that open", 20, 20, () -> Due.house(ALL_OPEN));
        mendIs("20 that close", 20, 20, () -> Due.house(ALL_CLOSE));
        mendIs("20 that open, for 99 each", 1980, 20, () -> Due.under("costs 99", ALL_OPEN));
        mendIs("20 that open, for nothing", 0, 20, () -> Due.under("costs 0", ALL_OPEN));
        mendIs("20 that close, for more than 99 each", 1980, 20, () -> Due.under("costs 1000", ALL_CLOSE));
        mendIs("what lived() has", 3 + 7, 2, Houses::lived);
        for (int sign = 0; sign < 6; sign++) {
            int loose = sign;
            mendIs(sign + " alone", 1, 1, () -> Due.house(loose));
            mendIs("a name ahead of " + sign, 1, 1, () -> Due.house(6, loose));
            mendIs("a name behind " + sign, 1, 1, () -> Due.house(loose, 6));
        }
        Edge.of(21, "(On paper, all asked with PLACE, length as now:) MENDED: the least that SIGNS COST which are PUT");
        mendIs("length as now", 4, 2, () -> Due.under("costs length", 0, 0));
        // Behind the last one: the place is the length; ahead of the first one it is 0.
        mendIs("cheapest behind the last one", 1, 1, () -> Due.under("costs 50; costs 1 if place = length", 0, 6, 6));
        mendIs("cheapest ahead of the first one", 1, 1, () -> Due.under("costs 50; costs 1 if place = 0", 6, 6, 3));
        mendIs("cheapest between", 1, 1, () -> Due.under("costs 50; costs 1 if place = 2", 0, 6, 6));
        mendIs("three for less than one", 3, 3, () -> Due.under("costs 1; costs 4 if sign = 4 and place < 3", 0, 1, 3));
        Edge.rowIs(mended(), 0, 1, 3);
    }

    private static BracketHouse mended() {
        BracketHouse x = Due.house(0, 1, 3);
        x.mend(0);
        x.mend(1);
        return x;
    }

    private static void mendBarred() {
        Edge.of(21, "(none BARRED from the PLACE ahead of which it is) so that the ROW is WHOLE;");
        mendIs("barred ahead of 1", 1, 1, () -> Due.under("bars if place = 1", 0, 6));
        mendIs("barred behind the last one", 1, 1, () -> Due.under("bars if place = length", 0, 6));
        mendIs("barred from both", -1, -1, () -> Due.under("bars if place = 1 or place = 2", 0, 6));
        mendIs("barred from 0 alone, where it would not help", 1, 1, () -> Due.under("bars if place = 0", 0, 6));
        mendIs("barred, another sign", 1, 1, () -> Due.under("bars if not sign = 3", 0, 6));
        mendIs("the cheap one is barred", 9, 1, () -> Due.under("costs 9; costs 0 if place = 1; bars if place = 1", 0, 6));
    }

    private static void mendFewest() {
        Edge.of(21, "then the fewest of them.");
        mendIs("all for nothing", 0, 1, () -> Due.under("costs 0", 0, 1, 3));
        mendIs("crossed, all for nothing", 0, 2, () -> Due.under("costs 0", 0, 1, 3, 4));
        mendIs("three for as much as one", 3, 1, () -> Due.under("costs 1; costs 3 if sign = 4 and place < 3", 0, 1, 3));
        mendIs("three for less than one", 3, 3, () -> Due.under("costs 1; costs 4 if sign = 4 and place < 3", 0, 1, 3));
    }

    private static void mendWithout() {
        Edge.of(21, "NONE (it can't be).");
        mendIs("all barred", -1, -1, () -> Due.under("bars", 0));
        mendIs("all barred, but whole", 0, 0, () -> Due.under("bars", 0, 3));
        mendIs("all barred, but empty", 0, 0, () -> Due.under("bars"));
        mendIs("20 of which one can't be", -1, -1, () -> Due.under("bars if place = 20", ALL_OPEN));
        mendIs("all barred, one that closes", -1, -1, () -> Due.under("bars", 3));
        mendIs("all barred, one that closes behind a pair", -1, -1, () -> Due.under("bars", 0, 3, 4));
        mendIs("all barred, one that closes behind a name", -1, -1, () -> Due.under("bars", 6, 5));
        mendIs("what opens is barred", -1, -1, () -> Due.under("bars if open = 1", 1, 5));
        mendIs("what closes is barred", -1, -1, () -> Due.under("bars if open = 0", 1, 5));
        mendIs("what opens is barred, nothing closes", 1, 1, () -> Due.under("bars if open = 1", 1));
        mendIs("what closes is barred, nothing opens", 1, 1, () -> Due.under("bars if open = 0", 5));
        mendIs("all barred, for nothing", -1, -1, () -> Due.under("costs 0; bars", 3, 0));
        mendIs("20 that close, of which the last one can't be", -1, -1, () -> Due.under("bars if place < 20", ALL_CLOSE));
        for (int what : new int[] {-1, 2, Integer.MIN_VALUE, Integer.MAX_VALUE}) {
            Edge.asked(Houses::lived, "mend(" + what + ")", x -> x.mend(what), -1);
            Edge.asked(Houses::bare, "mend(" + what + ") of an empty row", x -> x.mend(what), -1);
        }
    }

    private static void strikeIs(String name, Edge.Made made, int least, int... cuts) {
        Edge.asked(made, "strike(0) of " + name, x -> x.strike(0), least);
        for (int p = 0; p < cuts.length; p++) Edge.is("strike(1 + " + p + ") of " + name, made.make().strike(1 + p), cuts[p]);
        Edge.is("strike() beyond the last of " + name, made.make().strike(1 + cuts.length), -1);
    }

    private static void strike() {
        Edge.of(22, "STRUCK: what it comes to (what 0), whether the one at PLACE p is CUT (1 and p: 1, 0).");
        strikeIs("an empty row", BracketHouse::new, 0);
        strikeIs("a whole row", () -> Due.house(nested(1)), 0, new int[20]);
        strikeIs("20 names", () -> Houses.of(20, 6), 0, new int[20]);
        strikeIs("20 that open", () -> Due.house(ALL_OPEN), 20, Houses.times(20, 1));
        strikeIs("20 that close, for 99 each", () -> Due.under("strikes 99", ALL_CLOSE), 1980, Houses.times(20, 1));
        strikeIs("20 that close, for more than 99 each", () -> Due.under("strikes 1000", ALL_CLOSE), 1980, Houses.times(20, 1));
        strikeIs("20 that close, for nothing", () -> Due.under("strikes 0", ALL_CLOSE), 0, Houses.times(20, 1));
        strikeIs("what lived() has", Houses::lived, 7 + 8, 0, 0, 1, 1);
        for (int p = 0; p < 4; p++) {
            int place = p;
            Edge.asked(Houses::lived, "strike(1 + " + p + ")", x -> x.strike(1 + place), p < 2 ? 0 : 1);
        }
        Edge.of(22, "STRUCK: the least that SIGNS which OPEN or CLOSE STRIKE for that are CUT so that the rest is WHOLE;");
        strikeIs("names are not cut", () -> Due.under("strikes 0 if person > 0 - 1; strikes 9 if person < 0", 6, 0, 7), 9, 0, 1, 0);
        strikeIs("place as now", () -> Due.under("strikes place", 3, 3, 3), 3, 1, 1, 1);
        strikeIs("length as now", () -> Due.under("strikes length", 3, 3), 4, 1, 1);
        strikeIs("the dear one stays", () -> Due.under("strikes 5 if place = 2", 0, 3, 3), 1, 0, 1, 0);
        strikeIs("the two that are cheaper", () -> Due.under("strikes 3 if kind = 1", 0, 1, 3, 4), 2, 1, 0, 1, 0);
        for (int kind = 0; kind < 3; kind++) {
            int opens = kind;
            int closes = kind + 3;
            strikeIs("a pair of " + kind, () -> Due.house(opens, closes), 0, 0, 0);
            strikeIs("a pair of " + kind + ", one more that closes", () -> Due.house(opens, closes, closes), 1, 0, 0, 1);
            strikeIs("what closes " + kind + " and a name of three more", () -> Due.house(closes, closes + 3), 1, 1, 0);
            for (int other = 0; other < 6; other++) {
                int beside = other;
                if (other != closes) strikeIs(kind + " and then " + other, () -> Due.house(opens, beside), 2, 1, 1);
                strikeIs(closes + " and then " + other, () -> Due.house(closes, beside), 2, 1, 1);
            }
        }
        strikeIs("what is barred can be cut", () -> Due.under("bars", 0), 1, 1);
    }

    private static void strikeWhich() {
        Edge.of(22, "which: from the left, one that OPENS is PAIRED with the lowest one by which it is least, CUT only if by none; what lies between them and behind them likewise.");
        strikeIs("the lowest", () -> Due.house(0, 3, 3), 1, 0, 0, 1);
        strikeIs("the lowest by which it is least", () -> Due.under("strikes 2 if place = 2", 0, 3, 3), 1, 0, 1, 0);
        strikeIs("from the left", () -> Due.house(0, 0, 3), 1, 0, 1, 0);
        strikeIs("crossed as dear: the first is paired", () -> Due.house(0, 1, 3, 4), 2, 0, 1, 0, 1);
        strikeIs("for nothing: paired, not cut", () -> Due.under("strikes 0", 0, 3), 0, 0, 0);
        strikeIs("for nothing: the lowest", () -> Due.under("strikes 0", 0, 0, 3, 3), 0, 0, 1, 0, 1);
        strikeIs("cut only if by none", () -> Due.under("strikes 0", 0, 4), 0, 1, 1);
        strikeIs("between them likewise", () -> Due.house(0, 1, 4, 4, 3), 1, 0, 0, 0, 1, 0);
        strikeIs("behind them likewise", () -> Due.house(0, 3, 1, 4, 4), 1, 0, 0, 0, 0, 1);
        strikeIs("with the last one", () -> Due.under("strikes 9 if place = 4", 0, 3, 3, 3, 3), 3, 0, 1, 1, 1, 0);
    }

    private static void strikeWithout() {
        Edge.of(22, "whether the one at PLACE p is CUT (1 and p: 1, 0).");
        BracketHouse again = Due.house(0, 0);
        Edge.is("strike(1) ahead of a turn", again.strike(1), 1);
        Edge.is("strike(2) ahead of a turn", again.strike(2), 1);
        again.turn(1, 3);
        Edge.is("strike(1) behind it", again.strike(1), 0);
        Edge.is("strike(2) behind it", again.strike(2), 0);
        again.turn(0, 6);
        Edge.is("strike(1) of a name", again.strike(1), 0);
        Edge.is("strike(2) without the other one", again.strike(2), 1);
        Edge.of(22, "NONE.");
        for (int what : new int[] {-1, 5, 21, Integer.MIN_VALUE, Integer.MAX_VALUE}) Edge.asked(Houses::lived, "strike(" + what + ")", x -> x.strike(what), -1);
        Edge.asked(Houses::bare, "strike(1) of an empty row", x -> x.strike(1), -1);
        Edge.asked(Houses::full, "strike(21) of a full row", x -> x.strike(21), -1);
        Edge.asked(Houses::full, "strike(20) of a full row", x -> x.strike(20), 0);
    }

    private static void runIs(String name, Edge.Made made, int length, int first) {
        Edge.asked(made, "run(0) of " + name, x -> x.run(0), length);
        Edge.asked(made, "run(1) of " + name, x -> x.run(1), first);
    }

    private static void run() {
        Edge.of(23, "A RUN: how long (what 0), its first PLACE (1; NONE: none).");
        runIs("an empty row", BracketHouse::new, 0, -1);
        runIs("20 that open", () -> Due.house(ALL_OPEN), 0, -1);
        runIs("20 that close", () -> Due.house(ALL_CLOSE), 0, -1);
        runIs("20 names", () -> Houses.of(20, 6), 20, 0);
        runIs("ten pairs", () -> Due.house(nested(0)), 20, 0);
        runIs("one name", () -> Due.house(6), 1, 0);
        runIs("one that opens", () -> Due.house(0), 0, -1);
        runIs("what lived() has", Houses::lived, 2, 0);
        Edge.of(23, "A RUN: the longest run of PLACES that is WHOLE; the first of these.");
        runIs("two as long", () -> Due.house(0, 3, 3, 0, 3), 2, 0);
        runIs("the second is longer", () -> Due.house(6, 3, 0, 3), 2, 2);
        runIs("the first is longer", () -> Due.house(0, 3, 3, 6), 2, 0);
        runIs("at the end", () -> Due.house(0, 4, 6), 1, 2);
        runIs("not the row's pairs: read by itself", () -> Due.house(0, 1, 4, 2), 2, 1);
        BracketHouse again = Due.house(6, 7, 8);
        for (int n = 3; n >= 0; n--) {
            Edge.is("run(0) of " + n, again.run(0), n);
            Edge.is("run(1) of " + n, again.run(1), n == 0 ? -1 : 0);
            again.cut(0);
        }
        int[] last = Houses.times(20, 0);
        last[19] = 6;
        runIs("the last place alone", () -> Due.house(last), 1, 19);
    }

    private static void runWithout() {
        Edge.of(23, "NONE.");
        for (int what : new int[] {-1, 2, Integer.MIN_VALUE, Integer.MAX_VALUE}) Edge.asked(Houses::lived, "run(" + what + ")", x -> x.run(what), -1);
    }

    private static void fits() {
        Edge.of(24, "FITTING: SIGNS, as bits.");
        for (int kind = 0; kind < 3; kind++) {
            int[] signs = nested(kind);
            int open = 1 << kind;
            int close = 8 << kind;
            Edge.asked(() -> Due.house(signs), "fits(0) of ten pairs of " + kind, x -> x.fits(0), open);
            Edge.asked(() -> Due.house(signs), "fits(19) of ten pairs of " + kind, x -> x.fits(19), close);
        }
        Edge.asked(() -> Due.house(6), "fits(0) of one name", x -> x.fits(0), 0);
        Edge.asked(() -> Due.house(0), "fits(0) of one that opens", x -> x.fits(0), 0);
        Edge.asked(Houses::lived, "fits(0)", x -> x.fits(0), 0);
        Edge.of(24, "FITTING a PLACE: SIGNS 0 .. 5 which, in place of what is there, make the ROW WHOLE.");
        Edge.is("a name would", Due.house(0, 3, 6).fits(2), 0);
        Edge.is("what is there", Due.house(2, 5).fits(0), 4);
        Edge.is("a name gives way", Due.house(6, 3).fits(0), 1);
        Edge.is("barred or not", Due.under("bars", 6, 3).fits(0), 1);
        // ( x ) with x at 1: none; ( ( x ) : the closing one alone.
        Edge.is("one is missing", Due.house(0, 0, 6, 3).fits(2), 8);
        Edge.is("two are missing", Due.house(0, 0, 6).fits(2), 0);
        // x ) ( y: what is put in place of y closes the last one.
        Edge.is("one that closes", Due.house(0, 3, 1, 6).fits(3), 16);
    }

    private static void fitsWithout() {
        Edge.of(24, "NONE.");
        for (int place : new int[] {-1, 4, Integer.MIN_VALUE, Integer.MAX_VALUE}) Edge.asked(Houses::lived, "fits(" + place + ")", x -> x.fits(place), -1);
        Edge.asked(Houses::bare, "fits(0) of an empty row", x -> x.fits(0), -1);
        Edge.asked(Houses::full, "fits(20) of a full row", x -> x.fits(20), -1);
    }
}
