/** Edges of promises 25 to 31: whole rows counted and numbered, the game, hiding, how likely, laws compared. */
final class NumberEdges {
    private static final int[] ENDS = {Integer.MIN_VALUE, Integer.MAX_VALUE};

    private NumberEdges() { }

    static void all() {
        rows();
        rowsWithout();
        nth();
        nthWithout();
        nthByDeep();
        rank();
        rankByDeep();
        rankWithout();
        game();
        gameWithout();
        hide();
        hideLeast();
        hideBetween();
        hideWithout();
        likely();
        likelyWithout();
        compare();
        compareWithout();
    }

    private static void rows() {
        Edge.of(25, "How many ROWS of n PAIRS 0 .. 12 there are, at most so DEEP (0 .. 12).");
        long[][] due = {{0, 0, 1}, {0, 12, 1}, {1, 0, 0}, {12, 0, 0}, {1, 1, 3}, {1, 12, 3}, {12, 1, 531441}, {12, 4, 47071855134L}, {12, 9, 110424405303L},
            {12, 11, 110545573851L}, {12, 12, 110546105292L}, {10, 9, 991727955L}, {10, 10, 991787004L}};
        for (long[] d : due) Edge.asked(Houses::lived, "rows(" + d[0] + ", " + d[1] + ")", x -> x.rows((int) d[0], (int) d[1]), d[2]);
        Edge.of(25, "ROWS of n PAIRS: of SIGNS 0 .. 5 alone, WHOLE, nowhere more PAIRS within one another than told; in order as rows of numbers go.");
        BracketHouse x = new BracketHouse();
        for (int n = 0; n <= 5; n++) {
            for (int deep = 0; deep <= 5; deep++) Edge.is("rows(" + n + ", " + deep + ")", x.rows(n, deep), Model.list(n, deep).size());
        }
        for (int n = 1; n <= 12; n++) Edge.is("rows(" + n + ", n) more than one less deep", x.rows(n, n) - x.rows(n, n - 1), Math.round(Math.pow(3, n)));
        x.terms(1, 1);
        Edge.is("DEEP does not matter", x.rows(2, 2), 18);
    }

    private static void rowsWithout() {
        Edge.of(25, "NONE.");
        int[][] beyond = {{-1, 0}, {13, 0}, {0, -1}, {0, 13}, {13, 13}, {-1, -1}, {12, 13}, {13, 12}};
        for (int[] b : beyond) Edge.asked(Houses::lived, "rows(" + b[0] + ", " + b[1] + ")", x -> x.rows(b[0], b[1]), -1);
        for (int n : ENDS) {
            Edge.asked(Houses::lived, "rows(" + n + ", 1)", x -> x.rows(n, 1), -1);
            Edge.asked(Houses::lived, "rows(1, " + n + ")", x -> x.rows(1, n), -1);
        }
    }

    /** A house with a DEEP of its own; greater depths have been worked out in it, which must not be in the way. */
    private static BracketHouse deep(int deep, int... signs) {
        BracketHouse x = signs.length == 0 ? new BracketHouse() : Due.house(signs);
        x.terms(1, deep);
        x.rows(12, 12);
        return x;
    }

    private static void nthIs(int deep, int n, long k, int... signs) {
        BracketHouse x = deep(deep);
        for (int i = 0; i < signs.length; i++) Edge.is("nth(" + n + ", " + k + ", " + i + ") at DEEP " + deep, x.nth(n, k, i), signs[i]);
        Edge.is("nth(" + n + ", " + k + ", 2n)", x.nth(n, k, signs.length), -1);
    }

    /** So many pairs of one kind, one behind the other. */
    private static int[] beside(int n, int kind) {
        int[] signs = new int[2 * n];
        for (int i = 0; i < 2 * n; i++) signs[i] = kind + i % 2 * 3;
        return signs;
    }

    private static void nth() {
        Edge.of(26, "Of the k-th (0 on) ROW of n PAIRS 1 .. 12, at most DEEP deep, the i-th SIGN.");
        nthIs(4, 1, 0, 0, 3);
        nthIs(4, 1, 1, 1, 4);
        nthIs(4, 1, 2, 2, 5);
        nthIs(4, 2, 0, 0, 0, 3, 3);
        nthIs(4, 2, 17, 2, 5, 2, 5);
        nthIs(9, 12, 110424405303L - 1, beside(12, 2));
        nthIs(9, 12, 0, 0, 0, 0, 0, 0, 0, 0, 0, 0, 3, 0, 3, 0, 3, 0, 3, 3, 3, 3, 3, 3, 3, 3, 3);
        nthIs(1, 12, 0, beside(12, 0));
        nthIs(1, 12, 531440, beside(12, 2));
        Edge.asked(Houses::lived, "nth(1, 0, 0)", x -> x.nth(1, 0, 0), 0);
        Edge.asked(Houses::lived, "nth(12, 0, 23)", x -> x.nth(12, 0, 23), 3);
    }

    private static void nthWithout() {
        Edge.of(26, "NONE.");
        for (int n : new int[] {0, -1, 13, Integer.MIN_VALUE, Integer.MAX_VALUE}) Edge.asked(Houses::lived, "nth(" + n + ", 0, 0)", x -> x.nth(n, 0, 0), -1);
        for (long k : new long[] {-1, 3, Long.MIN_VALUE, Long.MAX_VALUE, 1L << 32, -(1L << 32)}) {
            Edge.asked(Houses::lived, "nth(1, " + k + ", 0)", x -> x.nth(1, k, 0), -1);
        }
        Edge.asked(Houses::lived, "nth(1, -1, 1)", x -> x.nth(1, -1, 1), -1);
        Edge.asked(Houses::lived, "nth(1, 3, 1)", x -> x.nth(1, 3, 1), -1);
        for (int i : new int[] {-1, 2, Integer.MIN_VALUE, Integer.MAX_VALUE}) Edge.asked(Houses::lived, "nth(1, 0, " + i + ")", x -> x.nth(1, 0, i), -1);
        Edge.asked(() -> deep(9), "nth() of one more than there are of 12 pairs", x -> x.nth(12, 110424405303L, 0), -1);
        Edge.asked(() -> deep(9), "nth(12, 0, 24)", x -> x.nth(12, 0, 24), -1);
        Edge.asked(() -> deep(9), "nth(12, 0, -1)", x -> x.nth(12, 0, -1), -1);
    }

    private static void nthByDeep() {
        Edge.of(26, "at most DEEP deep,");
        for (int deep = 1; deep <= 9; deep++) {
            BracketHouse x = deep(deep);
            long all = x.rows(10, deep);
            Edge.is("nth(10, the last, 19) at DEEP " + deep, x.nth(10, all - 1, 19), 5);
            Edge.is("nth(10, one more, 19) at DEEP " + deep, x.nth(10, all, 19), -1);
            // The first row goes as deep as it may.
            for (int i = 0; i <= deep; i++) Edge.is("nth(10, 0, " + i + ") at DEEP " + deep, x.nth(10, 0, i), i < deep ? 0 : 3);
        }
        for (int deep = 1; deep <= 9; deep++) {
            BracketHouse x = deep(deep);
            for (int i = 0; i < 24; i++) {
                int before = x.nth(12, 1000, i);
                x.rows(12, 12);
                Edge.is("nth(12, 1000, " + i + ") behind rows(12, 12)", x.nth(12, 1000, i), before);
            }
        }
        Edge.of(26, "in order as rows of numbers go.");
        for (int deep = 1; deep <= 3; deep++) {
            BracketHouse x = deep(deep);
            java.util.List<java.util.List<Integer>> all = Model.list(2, deep);
            for (int k = 0; k < all.size(); k++) {
                for (int i = 0; i < 4; i++) Edge.is("nth(2, " + k + ", " + i + ") at DEEP " + deep, x.nth(2, k, i), all.get(k).get(i));
            }
        }
    }

    private static void rank() {
        Edge.of(27, "The NUMBER of the ROW.");
        Edge.asked(BracketHouse::new, "rank() of an empty row", BracketHouse::rank, 0);
        for (int kind = 0; kind < 3; kind++) Edge.is("rank() of one pair of " + kind, Due.house(kind, kind + 3).rank(), kind);
        Edge.asked(() -> Due.house(0, 0, 3, 3), "rank() of the first of two", BracketHouse::rank, 0);
        Edge.asked(() -> Due.house(2, 5, 2, 5), "rank() of the last of two", BracketHouse::rank, 17);
        Edge.asked(() -> deep(9, beside(10, 2)), "rank() of the last of ten", BracketHouse::rank, 991727954L);
        Edge.asked(() -> deep(9, 0, 0, 0, 0, 0, 0, 0, 0, 0, 3, 0, 3, 3, 3, 3, 3, 3, 3, 3, 3), "rank() of the first of ten", BracketHouse::rank, 0);
        Edge.of(27, "The NUMBER of the ROW as it is, among those of as many PAIRS with DEEP.");
        Edge.is("with DEEP 1", deep(1, 0, 3, 2, 5).rank(), 2);
        Edge.is("with DEEP 2", deep(2, 0, 3, 2, 5).rank(), 5);
        Edge.is("with DEEP 9", deep(9, beside(2, 0)).rank(), 3);
        for (int deep = 1; deep <= 3; deep++) {
            java.util.List<java.util.List<Integer>> all = Model.list(3, deep);
            for (int k = 0; k < all.size(); k++) {
                int[] signs = new int[6];
                for (int i = 0; i < 6; i++) signs[i] = all.get(k).get(i);
                Edge.is("rank() of row " + k + " at DEEP " + deep, deep(deep, signs).rank(), k);
            }
        }
    }

    private static void rankByDeep() {
        Edge.of(27, "nowhere more PAIRS within one another than told;");
        for (int deep = 1; deep <= 9; deep++) {
            int[] signs = new int[2 * deep];
            int[] deeper = new int[2 * deep + 2];
            for (int i = 0; i < 2 * deep; i++) signs[i] = i < deep ? 0 : 3;
            for (int i = 0; i < 2 * deep + 2; i++) deeper[i] = i <= deep ? 0 : 3;
            Edge.is("rank() of " + deep + " within one another at DEEP " + deep, deep(deep, signs).rank(), 0);
            Edge.asked(() -> deep(deeper.length / 2 - 1, deeper), "rank() of one more at DEEP " + deep, BracketHouse::rank, -1);
        }
        // The innermost pair, the one too deep, of each kind; the others of each kind.
        for (int inner = 0; inner < 3; inner++) {
            for (int outer = 0; outer < 3; outer++) {
                Edge.is("rank() of " + inner + " in " + outer + " at DEEP 1", deep(1, outer, inner, inner + 3, outer + 3).rank(), -1);
                Edge.is("rank() of " + inner + " in " + outer + " at DEEP 2", deep(2, outer, inner, inner + 3, outer + 3).rank(), 6 * outer + inner);
            }
        }
        // Behind a row that is not too deep at first.
        Edge.is("too deep behind", deep(1, 0, 3, 0, 0, 3, 3).rank(), -1);
    }

    private static void rankWithout() {
        Edge.of(27, "NONE (it is not one of these; more than 12 PAIRS can't be).");
        Edge.asked(Houses::lived, "rank()", BracketHouse::rank, -1);
        int[][] none = {{0}, {3}, {6}, {0, 3, 6}, {6, 0, 3}, {0, 6, 3}, {0, 4}, {3, 0}, {0, 1, 3, 4}, {0, 3, 0}, {11, 11}, {0, 0}, {5, 5}};
        for (int[] signs : none) Edge.asked(() -> Due.house(signs), "rank() of " + java.util.Arrays.toString(signs), BracketHouse::rank, -1);
        Edge.asked(() -> Houses.of(20, 6), "rank() of 20 names", BracketHouse::rank, -1);
        Edge.asked(() -> Houses.of(20, 0), "rank() of 20 that open", BracketHouse::rank, -1);
        Edge.asked(() -> Houses.of(20, 5), "rank() of 20 that close", BracketHouse::rank, -1);
    }

    private static void gameIs(String name, Edge.Made made, int surplus, int taken) {
        Edge.asked(made, "game(0) of " + name, x -> x.game(0), surplus);
        Edge.asked(made, "game(1) of " + name, x -> x.game(1), taken);
    }

    private static void game() {
        Edge.of(28, "A GAME: the SURPLUS (what 0), what is taken first: the first one (1: 0; also if the last one is as good) or the last one (1: 1).");
        gameIs("one sign", () -> Due.house(6), 1, 0);
        gameIs("one sign of 0", () -> Due.under("worth 0", 6), 0, 0);
        gameIs("one sign of 99", () -> Due.under("worth 99", 6), 99, 0);
        gameIs("one sign of more than 99", () -> Due.under("worth 1000", 6), 99, 0);
        gameIs("one sign of less than 0", () -> Due.under("worth 0-1", 6), 0, 0);
        gameIs("two as good", () -> Due.house(0, 0), 0, 0);
        gameIs("two, the last better by one", () -> Due.under("worth place", 0, 0), 1, 1);
        gameIs("two, the first better by one", () -> Due.under("worth 1-place", 0, 0), 1, 0);
        gameIs("19 of 99", () -> Due.under("worth 99", Houses.times(19, 6)), 99, 0);
        gameIs("20 of 99", () -> Due.under("worth 99", Houses.times(20, 6)), 0, 0);
        gameIs("20 of which every other one is worth 99", () -> Due.under("worth 99 * [place % 2]", Houses.times(20, 6)), 990, 1);
        gameIs("lived", Houses::lived, 8 - 6 + 3 - 1, 0);
        Edge.of(28, "A GAME: two by turns take the first or the last SIGN of what is left, each to have more than the other of what they are WORTH (at their PLACES as now); the SURPLUS of the one who begins.");
        gameIs("0 99 0", () -> Due.under("worth 0; worth 99 if place = 1", 6, 6, 6), -99, 0);
        gameIs("0 1 2", () -> Due.under("worth place", 6, 6, 6), 1, 1);
        gameIs("8 15 3 7", () -> Due.under("worth 8 if place = 0; worth 15 if place = 1; worth 3 if place = 2; worth 7 if place = 3", 6, 6, 6, 6), 11, 1);
        gameIs("length as now", () -> Due.under("worth length", 6, 6, 6), 3, 0);
        gameIs("signs of all kinds", () -> Due.under("worth sign", 0, 11), 11, 1);
    }

    private static void gameWithout() {
        Edge.of(28, "NOTHING (without SIGNS, (1); others).");
        Edge.asked(BracketHouse::new, "game(0) without signs", x -> x.game(0), 0);
        Edge.asked(BracketHouse::new, "game(1) without signs", x -> x.game(1), -100000);
        Edge.asked(Houses::bare, "game(1) of a row that is empty again", x -> x.game(1), -100000);
        for (int what : new int[] {-1, 2, Integer.MIN_VALUE, Integer.MAX_VALUE}) {
            Edge.asked(Houses::lived, "game(" + what + ")", x -> x.game(what), -100000);
            Edge.asked(Houses::bare, "game(" + what + ") without signs", x -> x.game(what), -100000);
        }
    }

    /** What hide() tells of all four; NONE of each, if nothing is wanted. */
    private static void hideIs(String name, Edge.Made made, int people, int... want) {
        for (int what = 0; what < 4; what++) {
            int w = what;
            Edge.asked(made, "hide(" + people + ", " + what + ") of " + name, x -> x.hide(people, w), want.length == 0 ? -1 : want[what]);
        }
    }

    private static void hide() {
        Edge.of(29, "To HIDE people, as bits: what it COSTS (what 0), the KIND (1), ahead of which PLACE it OPENS (2), it CLOSES (3).");
        for (int person = 0; person < 6; person++) {
            int sign = 6 + person;
            hideIs("one name", () -> Due.house(sign), 1 << person, 2, 0, 0, 1);
        }
        hideIs("all of them", () -> Due.house(6, 7, 8, 9, 10, 11), 63, 2, 0, 0, 6);
        hideIs("all of whom one is said", () -> Due.house(11), 63, 2, 0, 0, 1);
        hideIs("20 names", () -> Houses.of(20, 6), 1, 2, 0, 0, 20);
        hideIs("the first of 20", () -> firstOf20(6, 7), 1, 2, 0, 0, 1);
        hideIs("the last of 20", () -> Due.under("costs 50 - place * 2", lastOf20()), 2, 12 + 10, 0, 19, 20);
        hideIs("for nothing", () -> Due.under("costs 0", 6), 1, 0, 0, 0, 1);
        hideIs("for 99 each", () -> Due.under("costs 1000", 6), 1, 198, 0, 0, 1);
        hideIs("lived", Houses::lived, 1, 3 + 5, 0, 0, 2);
    }

    private static BracketHouse firstOf20(int first, int others) {
        int[] signs = Houses.times(20, others);
        signs[0] = first;
        return Due.house(signs);
    }

    private static int[] lastOf20() {
        int[] signs = Houses.times(20, 6);
        signs[19] = 7;
        return signs;
    }

    private static void hideLeast() {
        Edge.of(29, "the least they COST together; the lowest KIND, then the lowest PLACES.");
        hideIs("the lowest places", () -> Due.house(7, 6, 7), 1, 2, 0, 0, 2);
        hideIs("the least, at higher places", () -> Due.under("costs 9 - place", 7, 6, 7), 1, 8 + 6, 0, 1, 3);
        hideIs("the least, of a higher kind", () -> Due.under("costs 5; costs 4 if sign = 5", 6), 1, 9, 2, 0, 1);
        hideIs("the lowest of two kinds", () -> Due.under("costs 5; costs 4 if kind > 0", 6), 1, 8, 1, 0, 1);
        hideIs("the least, of a higher kind, lower kinds behind it", () -> Due.under("costs 5; costs 4 if sign = 5", 7, 6), 1, 9, 2, 0, 2);
        hideIs("the kind ahead of the places", () -> Due.under("costs 5; bars if kind = 0 and place = 0", 7, 6), 1, 10, 0, 1, 2);
        hideIs("the least, further apart", () -> Due.under("costs 5; costs 4 if place = 0 or place = 3; costs 6 if place = 2", 7, 6, 7), 1, 8, 0, 0, 3);
        hideIs("where it closes", () -> Due.house(6, 7, 7), 1, 2, 0, 0, 1);
        hideIs("length as now", () -> Due.under("costs length", 6, 7), 2, 4, 0, 0, 2);
    }

    private static void hideBetween() {
        Edge.of(29, "To HIDE people: one OPENING and one CLOSING SIGN of one KIND, PUT ahead of a PLACE and ahead of a further one (neither BARRED), so that the run between them is WHOLE and has all NAMES of these people that lie 0 DEEP:");
        hideIs("of one kind", () -> Due.under("bars if sign = 0 or sign = 4", 6), 1, 2, 2, 0, 1);
        hideIs("no kind of which both can be", () -> Due.under("bars if sign = 0 or sign = 4 or sign = 2", 6), 1);
        hideIs("barred from the place where it opens", () -> Due.under("bars if place = 1 and open = 1", 0, 6), 1);
        hideIs("barred from the place where it closes", () -> Due.under("bars if place = 1 and open = 0", 6, 7), 1, 2, 0, 0, 2);
        hideIs("barred from where it is not put", () -> Due.under("bars if place = 1", 6, 7), 1, 2, 0, 0, 2);
        hideIs("behind the last one", () -> Due.under("bars if place = length", 6), 1);
        hideIs("not whole between", () -> Due.house(6, 0, 6), 1);
        hideIs("whole between", () -> Due.house(6, 0, 3, 6), 1, 2, 0, 0, 4);
        hideIs("one of a pair between", () -> Due.house(6, 3, 6), 1);
        hideIs("one that opens would be the last between", () -> Due.under("costs 9 - place", 6, 0), 1, 9 + 8, 0, 0, 1);
        hideIs("one that closes would be the first between", () -> Due.under("costs 9 + place", 3, 6), 1, 10 + 11, 0, 1, 2);
        hideIs("all names, not one alone", () -> Due.house(7, 6, 7, 6), 1, 2, 0, 0, 4);
        hideIs("all names, the first one, too", () -> Due.under("costs 9 - place", 6, 6, 7, 6), 1, 9 + 5, 0, 0, 4);
        hideIs("all names, the last one, too", () -> Due.under("costs 9 + place", 6, 7, 6, 6), 1, 9 + 13, 0, 0, 4);
        hideIs("names that lie 1 deep are not looked at", () -> Due.house(0, 6, 3, 6), 1, 2, 0, 0, 4);
        hideIs("names that lie 1 deep can stay outside", () -> Due.under("costs 9 - place", 0, 6, 3, 6), 1, 6 + 5, 0, 3, 4);
        hideIs("both of two people", () -> Due.house(6, 8, 7), 3, 2, 0, 0, 3);
        hideIs("no room is needed: on paper", () -> Houses.of(20, 11), 32, 2, 0, 0, 20);
    }

    private static void hideWithout() {
        Edge.of(29, "NONE (none of them is SAID; none).");
        hideIs("an empty row", BracketHouse::new, 1);
        hideIs("nobody", Houses::lived, 0);
        hideIs("one who is not said", Houses::lived, 2);
        hideIs("one who is within", () -> Due.house(0, 6, 3), 1);
        hideIs("below 0", Houses::lived, -1);
        hideIs("the first bit beyond the people", Houses::lived, 64);
        hideIs("the least number", Houses::lived, Integer.MIN_VALUE);
        hideIs("the greatest number", Houses::lived, Integer.MAX_VALUE);
        for (int what : new int[] {-1, 4, Integer.MIN_VALUE, Integer.MAX_VALUE}) Edge.asked(Houses::lived, "hide(1, " + what + ")", x -> x.hide(1, what), -1);
        hideIs("all barred", () -> Due.under("bars", 6), 1);
        hideIs("all barred, for nothing", () -> Due.under("costs 0; bars", 6), 1);
        hideIs("what opens is barred, for nothing", () -> Due.under("costs 0; bars if open = 1", 6), 1);
        hideIs("what closes is barred, for nothing", () -> Due.under("costs 0; bars if open = 0", 6), 1);
    }

    private static void likely() {
        Edge.of(30, "LIKELY, n 0 .. 60.");
        Edge.asked(Houses::lived, "likely(0)", x -> x.likely(0), 1000000000000L);
        Edge.asked(Houses::lived, "likely(1)", x -> x.likely(1), 0);
        Edge.asked(Houses::lived, "likely(59)", x -> x.likely(59), 0);
        Edge.asked(Houses::lived, "likely(60)", x -> x.likely(60), 0);
        Edge.of(30, "LIKELY: of 1,000,000,000,000 parts those by which n SIGNS of 0 .. 5, each as likely, are WHOLE: SIGN by SIGN, by how many are open, each part times 3 by 6 with one more open, by 6 with one less, both cut.");
        Edge.is("likely(2), cut from 83333333333 and a third", new BracketHouse().likely(2), 83333333333L);
        Edge.is("likely(4)", new BracketHouse().likely(4), 13888888888L);
        Edge.is("likely(6)", new BracketHouse().likely(6), 2893518518L);
        for (int n = 0; n <= 60; n++) Edge.is("likely(" + n + ")", new BracketHouse().likely(n), Model.likely(n));
    }

    private static void likelyWithout() {
        Edge.of(30, "NONE.");
        for (int n : new int[] {-1, 61, Integer.MIN_VALUE, Integer.MAX_VALUE}) Edge.asked(Houses::lived, "likely(" + n + ")", x -> x.likely(n), -1);
    }

    private static void compare() {
        Edge.of(31, "COMPARED: what it COSTS.");
        Edge.asked(Houses::lived, "compare(0), which is in force", x -> x.compare(0), 10);
        Edge.asked(Houses::lived, "compare(1)", x -> x.compare(1), 28);
        Edge.asked(BracketHouse::new, "compare(-1) of an empty row", x -> x.compare(-1), 0);
        Edge.asked(() -> Due.under("costs 99", Houses.times(20, 0)), "compare(0) of 20 for 99", x -> x.compare(0), 1980);
        Edge.of(31, "COMPARED: MENDED by a LAW in place of that in FORCE (NONE: none).");
        Edge.asked(Houses::lived, "compare(-1)", x -> x.compare(-1), 2);
        BracketHouse x = Houses.withLaws(6);
        Due.row(x, 0);
        for (int law = 0; law < 6; law++) Edge.is("compare(" + law + ")", x.compare(law), 10 + law);
        x.force(5);
        Edge.is("compare(-1), another one in force", x.compare(-1), 1);
        Edge.is("compare(0), another one in force", x.compare(0), 10);
        Edge.is("the one in force stays", x.count(10), 5);
        Edge.is("mend(0) stays", x.mend(0), 15);
    }

    private static void compareWithout() {
        Edge.of(31, "NONE (no such LAW; it can't be).");
        for (int law : new int[] {-2, 2, 6, Integer.MIN_VALUE, Integer.MAX_VALUE}) Edge.asked(Houses::lived, "compare(" + law + ")", x -> x.compare(law), -1);
        Edge.asked(BracketHouse::new, "compare(0) without laws", x -> x.compare(0), -1);
        Edge.asked(() -> Houses.withLaws(6), "compare(6) of six", x -> x.compare(6), -1);
        Edge.asked(() -> Houses.withLaws(6), "compare(5) of six", x -> x.compare(5), 0);
        Edge.asked(() -> Due.under("bars", 0), "compare(0), all barred", x -> x.compare(0), -1);
        Edge.asked(() -> Due.under("bars", 0), "compare(-1), nothing barred", x -> x.compare(-1), 1);
        Edge.asked(() -> Due.under("bars", 0, 3), "compare(0), all barred, but whole", x -> x.compare(0), 0);
    }
}
