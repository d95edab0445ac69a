/** Edges of promises 13 to 17: signs put, cut, turned, pages, and all of that undone. */
final class DeedEdges {
    private static final String IN_ORDER = "The first of these in that order.";

    private DeedEdges() { }

    static void all() {
        put();
        putInPlace();
        putWrong();
        putBarred();
        putWithoutRoom();
        putByTheFirst();
        cut();
        cutWithout();
        turn();
        turnWrong();
        turnBarred();
        pass();
        passBeyond();
        undo();
        undoSixteen();
        undoNone();
        undoBehindOthers();
        undoAtTheEnds();
    }

    private static void put() {
        Edge.of(13, "To PUT: what it COSTS.");
        Edge.granted(Houses::lived, "put(0, 0)", x -> x.put(0, 0), 3);
        Edge.granted(Houses::lived, "put(11, 4)", x -> x.put(11, 4), 7);
        Edge.granted(() -> Due.under("costs 0"), "put() for 0", x -> x.put(0, 0), 0);
        Edge.granted(() -> Due.under("costs 99"), "put() for 99", x -> x.put(0, 0), 99);
        Edge.granted(() -> Due.under("costs 100"), "put() for more than 99", x -> x.put(0, 0), 99);
        Edge.granted(() -> Due.under("costs 0-1"), "put() for less than 0", x -> x.put(0, 0), 0);
        Edge.granted(BracketHouse::new, "put() without a law", x -> x.put(0, 0), 1);
        Edge.granted(() -> Due.under("costs length", 6, 6), "put() with the length ahead of it", x -> x.put(6, 0), 2);
    }

    private static void putInPlace() {
        Edge.of(13, "To PUT a SIGN ahead of a PLACE (or behind the last one: the PLACE is the length), if it is not BARRED from that: all from there on are one further.");
        BracketHouse x = Edge.granted(Houses::lived, "put(9, 0)", h -> h.put(9, 0), 3);
        Edge.rowIs(x, 9, 8, 6, 3, 1);
        Edge.is("count(3)", x.count(3), 5);
        Edge.is("count(4)", x.count(4), 7);
        Edge.rowIs(Edge.granted(Houses::lived, "put(9, 3)", h -> h.put(9, 3), 6), 8, 6, 3, 9, 1);
        Edge.rowIs(Edge.granted(Houses::lived, "put(9, 4)", h -> h.put(9, 4), 7), 8, 6, 3, 1, 9);
        Edge.rowIs(Edge.granted(Houses::bare, "put(9, 0) of an empty row", h -> h.put(9, 0), 3), 9);
        x = Edge.granted(() -> Houses.of(19, 6), "put(9, 19) behind the 19th", h -> h.put(9, 19), 1);
        Edge.is("at(19, 0)", x.at(19, 0), 9);
        x = Edge.granted(() -> Houses.of(19, 6), "put(9, 0) ahead of 19", h -> h.put(9, 0), 1);
        Edge.is("at(0, 0)", x.at(0, 0), 9);
        Edge.is("at(19, 0)", x.at(19, 0), 6);
        Edge.of(13, "A ROW of SIGNS, 20 at most, at PLACES 0, 1 ..: 0 .. 2 OPEN KINDS 0 .. 2, 3 .. 5 CLOSE KINDS 0 .. 2, 6 .. 11 are NAMES of PEOPLE 0 .. 5.");
        for (int sign = 0; sign < 12; sign++) {
            BracketHouse y = new BracketHouse();
            Edge.is("put(" + sign + ", 0)", y.put(sign, 0), 1);
            Edge.is("at(0, 0)", y.at(0, 0), sign);
            Edge.is("at(0, 3)", y.at(0, 3), sign < 6 ? 1 : 0);
            Edge.is("said()", y.said(), sign < 6 ? 0 : 1 << sign - 6);
        }
    }

    private static void putWrong() {
        Edge.of(13, "-1 (the SIGN);");
        for (int sign : new int[] {-1, 12, Integer.MIN_VALUE, Integer.MAX_VALUE}) {
            Edge.refused(Houses::lived, "put(" + sign + ", 0)", x -> x.put(sign, 0), -1);
            Edge.refused(Houses::lived, "put(" + sign + ", 99)", x -> x.put(sign, 99), -1);
            Edge.refused(Houses::full, "put(" + sign + ", 0) of a full row", x -> x.put(sign, 0), -1);
        }
        Edge.of(13, "-2;");
        for (int place : new int[] {-1, 5, 20, Integer.MIN_VALUE, Integer.MAX_VALUE}) {
            Edge.refused(Houses::lived, "put(0, " + place + ")", x -> x.put(0, place), -2);
        }
        Edge.refused(Houses::bare, "put(0, 1) of an empty row", x -> x.put(0, 1), -2);
        Edge.refused(Houses::full, "put(0, 21) of a full row", x -> x.put(0, 21), -2);
    }

    private static void putBarred() {
        Edge.of(13, "-3;");
        Edge.refused(Houses::lived, "put(2, 1)", x -> x.put(2, 1), -3);
        Edge.granted(Houses::lived, "put(2, 0), the place ahead of it", x -> x.put(2, 0), 3);
        Edge.granted(Houses::lived, "put(2, 2), the place behind it", x -> x.put(2, 2), 5);
        Edge.granted(Houses::lived, "put(3, 1), another sign", x -> x.put(3, 1), 4);
        Edge.refused(() -> Due.under("bars if place = length"), "put() behind the last one", x -> x.put(0, 0), -3);
        // Asked with the length as it is ahead of the put.
        Edge.granted(() -> Due.under("bars if length > 0"), "put() by the length", x -> x.put(0, 0), 1);
        Edge.granted(() -> Due.under("bars if 1/0=1"), "put() by what is broken", x -> x.put(0, 0), 1);
    }

    private static void putWithoutRoom() {
        Edge.of(13, "-5.");
        for (int place : new int[] {0, 10, 20}) Edge.refused(Houses::full, "put(0, " + place + ") of a full row", x -> x.put(0, place), -5);
        BracketHouse x = Houses.full();
        x.cut(0);
        Edge.is("put() of 19", x.put(0, 0), 3);
        Edge.is("put() of 20", x.put(0, 0), -5);
        Edge.is("count(0)", x.count(0), 20);
    }

    private static void putByTheFirst() {
        Edge.of(13, IN_ORDER);
        Edge.refused(Houses::full, "put(12, 21), full", x -> x.put(12, 21), -1);
        Edge.refused(Houses::full, "put(2, 21), full", x -> x.put(2, 21), -2);
        Edge.refused(Houses::full, "put(2, 1), barred and full", x -> x.put(2, 1), -3);
        Edge.refused(() -> Due.under("bars", 6), "put(0, 2), barred from all", x -> x.put(0, 2), -2);
        Edge.refused(() -> Due.under("bars", 6), "put(12, 0), barred from all", x -> x.put(12, 0), -1);
    }

    private static void cut() {
        Edge.of(14, "To CUT: what it STRIKES for.");
        BracketHouse x = Edge.granted(Houses::lived, "cut(0)", h -> h.cut(0), 5);
        Edge.rowIs(x, 6, 3, 1);
        x = Edge.granted(Houses::lived, "cut(3)", h -> h.cut(3), 8);
        Edge.rowIs(x, 8, 6, 3);
        Edge.is("count(3)", x.count(3), 5);
        Edge.is("count(4)", x.count(4), 7);
        Edge.granted(() -> Due.under("strikes 0", 6), "cut() for 0", h -> h.cut(0), 0);
        Edge.granted(() -> Due.under("strikes 99", 6), "cut() for 99", h -> h.cut(0), 99);
        Edge.granted(() -> Due.under("strikes 100", 6), "cut() for more than 99", h -> h.cut(0), 99);
        Edge.granted(() -> Due.under("strikes 0-1", 6), "cut() for less than 0", h -> h.cut(0), 0);
        Edge.granted(() -> Due.house(6), "cut() without a law", h -> h.cut(0), 1);
        Edge.granted(() -> Due.under("bars", 6), "cut() when all are barred", h -> h.cut(0), 1);
        Edge.granted(() -> Due.under("strikes length * 10 + sign", 6, 7), "cut() with the length ahead of it", h -> h.cut(1), 27);
        Edge.of(14, "To CUT one: all behind it are one nearer.");
        Edge.rowIs(Edge.granted(Houses::lived, "cut(1)", h -> h.cut(1), 6), 8, 3, 1);
        x = Edge.granted(() -> Houses.full(), "cut(0) of 20", h -> h.cut(0), 5);
        Edge.is("count(0)", x.count(0), 19);
        Edge.is("at(0, 0)", x.at(0, 0), 6);
        Edge.is("at(18, 0)", x.at(18, 0), 7);
        Edge.is("at(19, 0)", x.at(19, 0), -1);
        x = Edge.granted(() -> Houses.full(), "cut(19) of 20", h -> h.cut(19), 24);
        Edge.is("at(18, 0)", x.at(18, 0), 6);
        Edge.is("at(19, 0)", x.at(19, 0), -1);
        Edge.rowIs(Edge.granted(() -> Due.house(6), "cut(0) of one", h -> h.cut(0), 1));
    }

    private static void cutWithout() {
        Edge.of(14, "-2.");
        for (int place : new int[] {-1, 4, 19, 20, Integer.MIN_VALUE, Integer.MAX_VALUE}) Edge.refused(Houses::lived, "cut(" + place + ")", x -> x.cut(place), -2);
        Edge.refused(Houses::bare, "cut(0) of an empty row", x -> x.cut(0), -2);
        Edge.refused(Houses::full, "cut(20) of a full row", x -> x.cut(20), -2);
        Edge.refused(BracketHouse::new, "cut(0) of a new object", x -> x.cut(0), -2);
    }

    private static void turn() {
        Edge.of(15, "To TURN: what SIGN it was.");
        Edge.rowIs(Edge.granted(Houses::lived, "turn(0, 11)", x -> x.turn(0, 11), 8), 11, 6, 3, 1);
        BracketHouse x = Edge.granted(Houses::lived, "turn(3, 0)", h -> h.turn(3, 0), 1);
        Edge.rowIs(x, 8, 6, 3, 0);
        Edge.is("count(3)", x.count(3), 5);
        Edge.granted(() -> Due.house(0), "turn() of what was 0", h -> h.turn(0, 1), 0);
        Edge.granted(() -> Due.house(11), "turn() of what was 11", h -> h.turn(0, 10), 11);
        x = Edge.granted(Houses::full, "turn(19, 11) of a full row", h -> h.turn(19, 11), 7);
        Edge.is("at(19, 0)", x.at(19, 0), 11);
        Edge.is("count(0)", x.count(0), 20);
    }

    private static void turnWrong() {
        Edge.of(15, "-1 (the SIGN);");
        for (int sign : new int[] {-1, 12, Integer.MIN_VALUE, Integer.MAX_VALUE}) {
            Edge.refused(Houses::lived, "turn(0, " + sign + ")", x -> x.turn(0, sign), -1);
            Edge.refused(Houses::lived, "turn(4, " + sign + ")", x -> x.turn(4, sign), -1);
        }
        Edge.of(15, "-2;");
        for (int place : new int[] {-1, 4, 20, Integer.MIN_VALUE, Integer.MAX_VALUE}) Edge.refused(Houses::lived, "turn(" + place + ", 0)", x -> x.turn(place, 0), -2);
        Edge.refused(Houses::bare, "turn(0, 0) of an empty row", x -> x.turn(0, 0), -2);
        Edge.refused(Houses::full, "turn(20, 0) of a full row", x -> x.turn(20, 0), -2);
        Edge.of(15, IN_ORDER);
        Edge.refused(() -> Due.under("bars", 6), "turn(1, 12), barred", x -> x.turn(1, 12), -1);
        Edge.refused(() -> Due.under("bars", 6), "turn(1, 0), barred", x -> x.turn(1, 0), -2);
    }

    private static void turnBarred() {
        Edge.of(15, "-3 (it is that one, too).");
        Edge.refused(Houses::lived, "turn(0, 8), which it is", x -> x.turn(0, 8), -3);
        Edge.refused(Houses::lived, "turn(3, 1), which it is", x -> x.turn(3, 1), -3);
        Edge.refused(() -> Due.house(0), "turn(0, 0), which it is", x -> x.turn(0, 0), -3);
        Edge.of(15, "To TURN one into another SIGN that is not BARRED from there.");
        Edge.refused(Houses::lived, "turn(1, 2)", x -> x.turn(1, 2), -3);
        Edge.granted(Houses::lived, "turn(0, 2), the place ahead of it", x -> x.turn(0, 2), 8);
        Edge.granted(Houses::lived, "turn(2, 2), the place behind it", x -> x.turn(2, 2), 3);
        Edge.granted(() -> Due.under("bars if sign = 6", 6), "turn() of one that is barred into one that is not", x -> x.turn(0, 7), 6);
        Edge.granted(() -> Due.under("bars if place = length", 6), "turn() of the last one", x -> x.turn(0, 7), 6);
    }

    private static BracketHouse atPage(int page) {
        BracketHouse x = Houses.lived();
        x.terms(0, page);
        x.put(6, 0);
        return x;
    }

    private static void pass() {
        Edge.of(16, "A PAGE: its number.");
        Edge.granted(BracketHouse::new, "pass() from 0", BracketHouse::pass, 1);
        BracketHouse x = Edge.granted(() -> atPage(998), "pass() from 998", BracketHouse::pass, 999);
        Edge.is("count(11)", x.count(11), 999);
        Edge.is("count(12)", x.count(12), 5);
        Edge.is("count(13)", x.count(13), 6);
        Edge.is("count(3)", x.count(3), 2);
        Edge.rowIs(x, 6, 8, 6, 3, 1);
        Edge.granted(() -> Due.under("bars"), "pass() when all are barred", BracketHouse::pass, 1);
    }

    private static void passBeyond() {
        Edge.of(16, "-3.");
        Edge.refused(() -> atPage(999), "pass() from 999", BracketHouse::pass, -3);
        Edge.of(16, "A PAGE passes (PAGE below 999).");
        BracketHouse x = atPage(997);
        Edge.is("pass()", x.pass(), 998);
        Edge.is("pass()", x.pass(), 999);
        Edge.is("pass()", x.pass(), -3);
        Edge.is("undo()", x.undo(), 3);
        Edge.is("count(11)", x.count(11), 998);
        Edge.is("pass() once more", x.pass(), 999);
    }

    private static void undo() {
        Edge.of(17, "The latest put(), cut(), turn(), pass()");
        Edge.is("undo() of lived()", Edge.granted(Houses::lived, "undo() of a pass", BracketHouse::undo, 3).count(11), 7);
        Edge.Call[] deeds = {x -> x.put(9, 1), x -> x.cut(2), x -> x.turn(1, 9), x -> x.pass()};
        for (int i = 0; i < 4; i++) {
            int kind = i;
            Edge.same(Houses::lived, "deed " + i + " and undo()", x -> deeds[kind].on(x) + x.undo(), Edge.NOTHING_AT_ALL);
            Edge.granted(() -> {
                BracketHouse x = Houses.lived();
                deeds[kind].on(x);
                return x;
            }, "undo() of deed " + i, BracketHouse::undo, kind);
        }
        Edge.of(17, "is undone: 0 .. 3.");
        BracketHouse x = new BracketHouse();
        x.put(6, 0);
        x.turn(0, 7);
        x.pass();
        x.cut(0);
        int[] kinds = {1, 3, 2, 0};
        for (int kind : kinds) Edge.is("undo(), the latest first", x.undo(), kind);
        Edge.of(17, "by ORDERS, too;");
        x = Houses.lived();
        TextEdges.with(x, "put 9 at 0; cut 1; turn 0 to 10; pass times 2");
        Edge.is("orders()", x.orders(), 5);
        for (int kind : new int[] {3, 3, 2, 1, 0}) Edge.is("undo() one by one", x.undo(), kind);
        Edge.rowIs(x, Houses.LIVED_ROW);
        Edge.is("count(11)", x.count(11), 8);
        Edge.is("undo() of what was ahead of them", x.undo(), 3);
    }

    private static void undoSixteen() {
        Edge.of(17, "16 are kept)");
        for (int n : new int[] {15, 16, 17, 18, 31, 32, 33, 40}) {
            BracketHouse x = Due.house(6, 6);
            // So that each can be told from all others: the sign, and the place.
            for (int i = 0; i < n; i++) x.turn(i % 2, (i / 2 + 1) % 12);
            int kept = Math.min(n, 16);
            Edge.is("count(3) behind " + n, x.count(3), kept);
            for (int i = n - 1; i >= n - kept; i--) {
                Edge.is("undo() " + i + " of " + n, x.undo(), 2);
                Edge.is("what it was ahead of " + i + " of " + n, x.at(i % 2, 0), i < 2 ? 6 : (i / 2) % 12);
            }
            Edge.is("undo() of one more, of " + n, x.undo(), -3);
        }
        mixedDeeds();
        BracketHouse x = OrderEdges.withDeeds(16);
        x.undo();
        Edge.is("one goes and one comes", x.pass(), 1);
        Edge.is("count(3)", x.count(3), 16);
        Edge.is("undo()", x.undo(), 3);
        for (int i = 0; i < 15; i++) Edge.is("undo()", x.undo(), 2);
        Edge.is("undo() of one more", x.undo(), -3);
        Edge.rowIs(x, 6);
    }

    /** One of each, again and again, so that the kinds that are kept move on, too. */
    private static void mixedDeeds() {
        for (int n = 16; n <= 40; n++) {
            BracketHouse x = Due.house(6);
            for (int i = 0; i < n; i++) deed(x, i % 4);
            Edge.is("count(3) behind " + n + " of all kinds", x.count(3), 16);
            for (int i = n - 1; i >= n - 16; i--) Edge.is("undo() " + i + " of " + n + " of all kinds", x.undo(), i % 4);
            Edge.is("undo() of one more, of " + n + " of all kinds", x.undo(), -3);
            BracketHouse y = Due.house(6);
            for (int i = 0; i < n - 16; i++) deed(y, i % 4);
            Edge.is("count(11) behind all that", x.count(11), y.count(11));
            for (int p = 0; p < 3; p++) Edge.is("at(" + p + ", 0) behind all that", x.at(p, 0), y.at(p, 0));
        }
    }

    private static void deed(BracketHouse x, int kind) {
        switch (kind) {
            case 0: x.put(8, 1); break;
            case 1: x.cut(0); break;
            case 2: x.turn(0, 9); break;
            default: x.pass(); break;
        }
    }

    private static void undoNone() {
        Edge.of(17, "-3 there is none");
        Edge.refused(BracketHouse::new, "undo() of a new object", BracketHouse::undo, -3);
        Edge.refused(() -> {
            BracketHouse x = OrderEdges.withDeeds(16);
            for (int i = 0; i < 16; i++) x.undo();
            return x;
        }, "undo() behind 16 of them", BracketHouse::undo, -3);
        BracketHouse x = new BracketHouse();
        x.put(6, 0);
        x.undo();
        Edge.is("an undo() is not undone", x.undo(), -3);
        x.put(99, 0);
        x.cut(0);
        x.turn(0, 0);
        Edge.is("what was refused is not undone", x.undo(), -3);
    }

    private static void undoBehindOthers() {
        Edge.of(17, "(nothing that was ahead of a row(), terms() that was not REFUSED can be undone).");
        Edge.refused(() -> {
            BracketHouse x = Houses.lived();
            x.row();
            return x;
        }, "undo() behind row()", BracketHouse::undo, -3);
        Edge.refused(() -> {
            BracketHouse x = Houses.lived();
            x.terms(2, 6);
            return x;
        }, "undo() behind terms() that changes nothing", BracketHouse::undo, -3);
        for (int what = 0; what < 3; what++) {
            BracketHouse x = Houses.lived();
            x.terms(what, 3);
            Edge.is("undo() behind terms(" + what + ", 3)", x.undo(), -3);
            x.pass();
            Edge.is("undo() of what was behind it", x.undo(), 3);
            Edge.is("undo() of what was ahead of it", x.undo(), -3);
        }
        BracketHouse x = Houses.lived();
        Due.row(TextEdges.with(x, ""), 99);
        Edge.is("undo() behind a row() of blots alone", x.undo(), -3);
        x = TextEdges.with(Houses.lived(), "");
        x.row();
        x.terms(0, 1000);
        x.terms(3, 0);
        Edge.is("refused ones leave it", x.count(3), 4);
        Edge.is("undo() behind refused ones", x.undo(), 3);
        Edge.of(17, "what can be undone (nothing, behind back()),");
        x = Houses.lived();
        x.back(1);
        x.back(2);
        x.image(1);
        x.force(1);
        x.readers(1, 5);
        Due.law(TextEdges.with(x, ""), "bars");
        Due.orders(x, "cut 99");
        Edge.is("others leave it", x.count(3), 4);
        x.back(1);
        Edge.is("undo() behind back()", x.undo(), -3);
    }

    private static void undoAtTheEnds() {
        Edge.of(17, "is undone:");
        // A full row, an empty row, places at both ends, a law that would bar it.
        Edge.same(Houses::full, "cut(0) of 20 and undo()", x -> x.cut(0) + x.undo(), Edge.NOTHING_AT_ALL);
        Edge.same(Houses::full, "cut(19) of 20 and undo()", x -> x.cut(19) + x.undo(), Edge.NOTHING_AT_ALL);
        Edge.same(() -> Houses.of(19, 6), "put(7, 19) of 19 and undo()", x -> x.put(7, 19) + x.undo(), Edge.NOTHING_AT_ALL);
        Edge.same(() -> Houses.of(19, 6), "put(7, 0) of 19 and undo()", x -> x.put(7, 0) + x.undo(), Edge.NOTHING_AT_ALL);
        Edge.same(Houses::bare, "put(7, 0) of 0 and undo()", x -> x.put(7, 0) + x.undo(), Edge.NOTHING_AT_ALL);
        BracketHouse x = new BracketHouse();
        Due.law(x, "bars");
        Due.row(x, 6, 7);
        x.cut(0);
        x.turn(0, 8);
        x.force(0);
        Edge.is("undo() of a turn back into what is barred", x.undo(), 2);
        Edge.is("undo() of a cut of what is barred", x.undo(), 1);
        Edge.rowIs(x, 6, 7);
        Edge.is("the law stays in force", x.count(10), 0);
    }
}
