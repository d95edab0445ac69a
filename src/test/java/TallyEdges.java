/** Edges of promises 36 and 37: what is counted, and what the latest call was refused by. */
final class TallyEdges {
    private TallyEdges() { }

    static void all() {
        counts();
        refusals();
        refusalsStay();
        countWithout();
        statusOfEach();
        statusOfOthers();
        statusAtFirst();
        refusedBy();
    }

    private static void counts() {
        Edge.of(36, "0 the length, 1 how many are LOOSE, 2 LAWS, 3 how many can be undone, 4 bytes of the TAPE,");
        for (int what = 0; what < 5; what++) {
            int w = what;
            Edge.asked(BracketHouse::new, "count(" + what + ") of a new object", x -> x.count(w), 0);
        }
        Edge.asked(() -> Houses.of(20, 0), "count(0) of a full row", x -> x.count(0), 20);
        Edge.asked(() -> Houses.of(20, 0), "count(1) of 20 loose ones", x -> x.count(1), 20);
        Edge.asked(() -> Houses.of(20, 6), "count(1) of 20 names", x -> x.count(1), 0);
        Edge.asked(() -> Due.house(RowEdges.nested(0)), "count(1) of ten pairs", x -> x.count(1), 0);
        Edge.asked(() -> Houses.withLaws(6), "count(2) of six laws", x -> x.count(2), 6);
        Edge.asked(() -> OrderEdges.withDeeds(15), "count(3) of 15", x -> x.count(3), 15);
        Edge.asked(() -> OrderEdges.withDeeds(16), "count(3) of 16", x -> x.count(3), 16);
        Edge.asked(() -> OrderEdges.withDeeds(17), "count(3) of 17", x -> x.count(3), 16);
        Edge.asked(() -> TextEdges.with(new BracketHouse(), " ".repeat(400)), "count(4) of a full tape", x -> x.count(4), 400);
        int[] lived = {4, 2, 2, 4, 7};
        for (int what = 0; what < 5; what++) Edge.is("count(" + what + ") of lived()", Houses.lived().count(what), lived[what]);
        Edge.of(36, "10 the LAW in FORCE, 11 .. 13 TERMS 0 .. 2.");
        Edge.asked(BracketHouse::new, "count(10) without one", x -> x.count(10), -1);
        BracketHouse x = Houses.withLaws(6);
        x.force(5);
        Edge.is("count(10) of the last one", x.count(10), 5);
        x.force(0);
        Edge.is("count(10) of the first one", x.count(10), 0);
        int[][] ends = {{0, 999}, {1, 9}, {0, 9}};
        for (int term = 0; term < 3; term++) {
            for (int value : ends[term]) {
                x.terms(term, value);
                Edge.is("count(" + (11 + term) + ")", x.count(11 + term), value);
            }
        }
        for (int what = 10; what < 14; what++) Edge.is("count(" + what + ") of lived()", Houses.lived().count(what), new int[] {0, 8, 5, 6}[what - 10]);
    }

    /** One call that is refused by each of -1, -2, -3, -5, -6. */
    private static int refuse(BracketHouse x, int which) {
        switch (which) {
            case 0: return x.terms(-1, 0);
            case 1: return x.cut(-1);
            case 2: return x.turn(0, x.at(0, 0));
            case 3: return x.put(6, 0);
            default: return x.row();
        }
    }

    private static void refusals() {
        Edge.of(36, "5 .. 9 how many calls were REFUSED by -1, -2, -3, -5, -6");
        int[] by = {-1, -2, -3, -5, -6};
        for (int which = 0; which < 5; which++) {
            BracketHouse x = Houses.of(20, 6);
            for (int i = 1; i <= 3; i++) {
                Edge.is("refused", refuse(x, which), by[which]);
                for (int what = 5; what <= 9; what++) Edge.is("count(" + what + ")", x.count(what), what == 5 + which ? i : 0);
            }
        }
        BracketHouse x = Houses.of(20, 6);
        for (int i = 0; i < 400; i++) refuse(x, i % 5);
        for (int what = 5; what <= 9; what++) Edge.is("count(" + what + ") behind 400", x.count(what), 80);
        // Questions are not refused: they answer NONE.
        x = new BracketHouse();
        x.feed(0, 0, 0, 0, 0);
        x.end(21);
        x.end(-1);
        x.asks(-1, -1, -1);
        x.at(-1, -1);
        x.whole(-1, -1);
        x.mend(-1);
        x.strike(-1);
        x.run(-1);
        x.fits(-1);
        x.rows(-1, -1);
        x.nth(-1, -1, -1);
        x.game(-1);
        x.hide(-1, -1);
        x.likely(-1);
        x.compare(-2);
        x.drawn(-1);
        x.count(-1);
        for (int what = 5; what <= 9; what++) Edge.is("count(" + what + ") behind questions", x.count(what), 0);
        Edge.is("status() behind questions", x.status(), 0);
    }

    private static void refusalsStay() {
        Edge.of(36, "(IMAGES do not keep that),");
        BracketHouse x = Houses.of(20, 6);
        x.image(0);
        for (int which = 0; which < 5; which++) refuse(x, which);
        x.back(0);
        for (int what = 5; what <= 9; what++) Edge.is("count(" + what + ") behind back()", x.count(what), 1);
        x.image(1);
        for (int which = 0; which < 5; which++) refuse(x, which);
        x.back(1);
        for (int what = 5; what <= 9; what++) Edge.is("count(" + what + ") behind back()", x.count(what), 2);
    }

    private static void countWithout() {
        Edge.of(36, "NONE for others.");
        for (int what : new int[] {-1, 14, 15, Integer.MIN_VALUE, Integer.MAX_VALUE}) {
            Edge.asked(Houses::lived, "count(" + what + ")", x -> x.count(what), -1);
            Edge.asked(BracketHouse::new, "count(" + what + ") of a new object", x -> x.count(what), -1);
        }
        Edge.asked(Houses::lived, "count(13), the last one", x -> x.count(13), 6);
        Edge.asked(Houses::lived, "count(0), the first one", x -> x.count(0), 4);
    }

    private static void statusIs(String name, int by, Edge.Made made, Edge.Call call) {
        BracketHouse x = made.make();
        // Ahead of it the status is another one.
        if (by == 0) x.terms(-1, 0);
        else x.force(x.count(10));
        call.on(x);
        Edge.is("status() behind " + name, x.status(), by);
        Edge.is("status() once more", x.status(), by);
    }

    private static BracketHouse atLastPage() {
        BracketHouse x = Houses.lived();
        x.terms(0, 999);
        return x;
    }

    private static void statusOfEach() {
        Edge.of(37, "What the latest call of terms, row, law, orders, force, put, cut, turn, pass, undo, readers, image, back was REFUSED by;");
        statusIs("terms()", -1, Houses::lived, x -> x.terms(0, 1000));
        statusIs("row()", -6, BracketHouse::new, BracketHouse::row);
        statusIs("law(), no room", -5, () -> Houses.withLaws(6), BracketHouse::law);
        statusIs("law(), a fault", -6, BracketHouse::new, BracketHouse::law);
        statusIs("orders(), one can't be", -3, () -> TextEdges.with(Houses.lived(), "cut 9"), BracketHouse::orders);
        statusIs("orders(), a fault", -6, () -> TextEdges.with(Houses.lived(), "cut"), BracketHouse::orders);
        statusIs("force()", -2, Houses::lived, x -> x.force(2));
        statusIs("put(), -1", -1, Houses::lived, x -> x.put(12, 0));
        statusIs("put(), -2", -2, Houses::lived, x -> x.put(0, 5));
        statusIs("put(), -3", -3, Houses::lived, x -> x.put(2, 1));
        statusIs("put(), -5", -5, Houses::full, x -> x.put(0, 0));
        statusIs("cut()", -2, Houses::lived, x -> x.cut(4));
        statusIs("turn(), -1", -1, Houses::lived, x -> x.turn(0, 12));
        statusIs("turn(), -2", -2, Houses::lived, x -> x.turn(4, 0));
        statusIs("turn(), -3", -3, Houses::lived, x -> x.turn(0, 8));
        statusIs("pass()", -3, TallyEdges::atLastPage, BracketHouse::pass);
        statusIs("undo()", -3, BracketHouse::new, BracketHouse::undo);
        statusIs("readers()", -1, Houses::lived, x -> x.readers(0, 61));
        statusIs("image()", -1, Houses::lived, x -> x.image(2));
        statusIs("back(), -1", -1, Houses::lived, x -> x.back(2));
        statusIs("back(), -2", -2, Houses::lived, x -> x.back(1));
        Edge.of(37, "0 if it was not,");
        statusIs("terms()", 0, Houses::lived, x -> x.terms(0, 999));
        statusIs("row()", 0, Houses::lived, BracketHouse::row);
        statusIs("law()", 0, Houses::lived, BracketHouse::law);
        statusIs("orders()", 0, () -> TextEdges.with(Houses.lived(), "pass"), BracketHouse::orders);
        statusIs("orders() of which none is run", 0, () -> TextEdges.with(Houses.lived(), "pass if 1=2"), BracketHouse::orders);
        statusIs("force()", 0, Houses::lived, x -> x.force(1));
        statusIs("force() of none", 0, BracketHouse::new, x -> x.force(-1));
        statusIs("put()", 0, Houses::lived, x -> x.put(0, 4));
        statusIs("cut()", 0, Houses::lived, x -> x.cut(3));
        statusIs("turn()", 0, Houses::lived, x -> x.turn(3, 0));
        statusIs("pass()", 0, Houses::lived, BracketHouse::pass);
        statusIs("undo()", 0, Houses::lived, BracketHouse::undo);
        statusIs("readers()", 0, Houses::lived, x -> x.readers(0, 60));
        statusIs("image()", 0, Houses::lived, x -> x.image(1));
        statusIs("back()", 0, Houses::lived, x -> x.back(0));
    }

    private static void statusOfOthers() {
        Edge.of(37, "What the latest call of");
        Edge.Call[] others = {x -> x.feed(0, 0, 0, 0, 0), x -> x.end(0), x -> x.end(-1), BracketHouse::blots, BracketHouse::fault, BracketHouse::stopped,
            x -> x.asks(0, 0, 0), x -> x.asks(12, 0, 0), x -> x.at(0, 0), x -> x.at(9, 0), BracketHouse::said, x -> x.whole(0, 0), x -> x.whole(9, 9),
            x -> x.mend(0), x -> x.mend(2), x -> x.strike(0), x -> x.strike(99), x -> x.run(0), x -> x.run(2), x -> x.fits(0), x -> x.fits(9),
            x -> x.rows(1, 1), x -> x.rows(13, 1), x -> x.nth(1, 0, 0), x -> x.nth(0, 0, 0), BracketHouse::rank, x -> x.game(0), x -> x.game(2),
            x -> x.hide(1, 0), x -> x.hide(0, 0), x -> x.likely(0), x -> x.likely(61), x -> x.compare(0), x -> x.compare(9), x -> x.drawn(0), x -> x.drawn(99),
            x -> x.count(0), x -> x.count(99), BracketHouse::status};
        int[] by = {-1, -2, -3, -5, -6};
        for (int i = 0; i < others.length; i++) {
            for (int which = 0; which < 5; which++) {
                BracketHouse x = Houses.of(20, 6);
                refuse(x, which);
                others[i].on(x);
                Edge.is("status() behind other call " + i, x.status(), by[which]);
            }
            BracketHouse x = new BracketHouse();
            x.pass();
            others[i].on(x);
            Edge.is("status() behind other call " + i + ", nothing refused", x.status(), 0);
        }
    }

    private static void statusAtFirst() {
        Edge.of(37, "or ahead of any.");
        Edge.is("status() of a new object", new BracketHouse().status(), 0);
        BracketHouse x = new BracketHouse();
        x.at(9, 9);
        x.end(1);
        x.count(99);
        Edge.is("status() behind questions alone", x.status(), 0);
    }

    private static void refusedBy() {
        Edge.of(37, "REFUSED by: -1 a number that can't be; -2 there is no such PLACE, LAW, IMAGE; -3 it can't be by what stands; -5 no room; -6 a TEXT that can't be. The first of these in that order.");
        BracketHouse x = Houses.of(20, 6);
        int[] by = {-1, -2, -3, -5, -6};
        for (int which = 0; which < 5; which++) {
            refuse(x, which);
            Edge.is("status()", x.status(), by[which]);
        }
        x.put(12, 21);
        Edge.is("status() of a sign and a place that can't be, without room", x.status(), -1);
        x.put(0, 21);
        Edge.is("status() of a place that can't be, without room", x.status(), -2);
        x.force(Due.law(x, "bars"));
        x.put(0, 20);
        Edge.is("status() of a barred one without room", x.status(), -3);
        for (int i = 0; i < 5; i++) Due.law(x, "bars");
        Due.law(x, "x");
        Edge.is("status() of a fault without room", x.status(), -5);
    }
}
