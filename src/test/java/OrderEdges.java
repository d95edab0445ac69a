/** Edges of promise 8: how orders are run, wholly or not at all. */
final class OrderEdges {
    private OrderEdges() { }

    static void all() {
        howMany();
        times();
        tests();
        words();
        placeWords();
        kinds();
        cantBe();
        brokenSums();
        ends();
        allAsItWas();
        inOrder();
    }

    private static BracketHouse with(BracketHouse x, String text) {
        return TextEdges.with(x, text);
    }

    /** Orders that can be: how many were run. The house behind them. */
    private static BracketHouse run(Edge.Made made, String text, int want) {
        BracketHouse x = Edge.granted(() -> with(made.make(), text), "orders() of " + text, BracketHouse::orders, want);
        Edge.is("stopped() of " + text, x.stopped(), -1);
        Edge.is("fault() of " + text, x.fault(), -1);
        Edge.is("count(4) behind " + text, x.count(4), 0);
        return x;
    }

    /** Orders that can't be: which clause it was, and that all is as it was. */
    private static void cant(Edge.Made made, String text, int clause) {
        Edge.refused(() -> with(made.make(), text), "orders() of " + text, BracketHouse::orders, -3, Edge.TAPE_EMPTIED, "fault()", "stopped()");
        BracketHouse x = with(made.make(), text);
        x.orders();
        Edge.is("stopped() of " + text, x.stopped(), clause);
        Edge.is("fault() of " + text, x.fault(), -1);
    }

    private static void howMany() {
        Edge.of(8, "ORDERS, the TAPE is empty then: how many were run.");
        run(Houses::lived, "pass if 1=2", 0);
        run(Houses::lived, "pass", 1);
        BracketHouse x = run(Houses::lived, "pass times 20;".repeat(11) + "pass times 20", 240);
        Edge.is("count(11)", x.count(11), 8 + 240);
        Edge.is("count(3)", x.count(3), 16);
        x = run(Houses::lived, "pass if 1=2", 0);
        Edge.is("none were run, and what can be undone stays", x.count(3), 4);
        Edge.same(() -> with(Houses.lived(), "cut 0 if 1=2"), "orders() of which none is run", BracketHouse::orders, Edge.TAPE_EMPTIED, "fault()", "stopped()");
        manyTexts();
        // What orders do is what the calls do, and is undone likewise.
        Edge.same(() -> with(Houses.lived(), "put 6 at 0; cut 1; turn 0 to 7; pass"), "orders() of one of each", BracketHouse::orders, y -> {
            y.end(0);
            y.put(6, 0);
            y.cut(1);
            y.turn(0, 7);
            return y.pass();
        }, "fault()", "stopped()");
    }

    /** Texts of 50 parts, one behind the other: what is read of one is not in the way of the next. */
    private static void manyTexts() {
        BracketHouse y = new BracketHouse();
        for (int i = 1; i <= 30; i++) {
            Edge.is("orders() of 50 parts, text " + i, Due.orders(y, "put " + "1+".repeat(6) + "0 at 0*" + "1*".repeat(40) + "1; cut 0"), 2);
            Edge.is("count(0) behind text " + i, y.count(0), 0);
        }
    }

    private static void times() {
        Edge.of(8, "Run CLAUSE by CLAUSE, each as often as TIMES tell (once without);");
        Edge.is("once without", run(Houses::lived, "pass", 1).count(11), 9);
        Edge.is("times 1", run(Houses::lived, "pass times 1", 1).count(11), 9);
        Edge.is("times 20", run(Houses::lived, "pass times 20", 20).count(11), 28);
        BracketHouse x = run(BracketHouse::new, "put 6 at 0 times 20", 20);
        Edge.is("count(0)", x.count(0), 20);
        x = run(BracketHouse::new, "put 6 at 0; put 7 at 0; cut 1; put 8 at 0", 4);
        Edge.rowIs(x, 8, 7);
        x = run(BracketHouse::new, "put 6 at length times 2; put 7 at length times 2", 4);
        Edge.rowIs(x, 6, 6, 7, 7);
    }

    private static void tests() {
        Edge.of(8, "each time its 'if' is asked (not run, if it is not so or BROKEN), then its SUMS from the left.");
        run(Houses::lived, "cut 0 if 1=2", 0);
        run(Houses::lived, "cut 0 if 1/0=1", 0);
        run(Houses::lived, "cut 0 if not 1/0=1", 0);
        run(Houses::lived, "cut 0 if 1000*1000*1000+1>0", 0);
        run(Houses::lived, "cut 0 if 1000*1000*1000>0", 1);
        run(Houses::lived, "cut 0 if 1=1 or 1/0=1", 1);
        run(Houses::lived, "cut 0 if 1/0=1 or 1=1", 0);
        // What is not run is not refused, whatever its sums are.
        run(Houses::lived, "cut 1/0 if 1=2; put 99 at 99 if 1/0=1; turn 0 to 1/0 if 1=2", 0);
        BracketHouse x = run(Houses::lived, "cut 0 times 20 if length > 1", 3);
        Edge.rowIs(x, 1);
        run(Houses::lived, "cut 0 times 20 if length > 0", 4);
        run(Houses::lived, "pass times 20 if page % 2 = 0", 1);
        x = run(Houses::lived, "put done at length times 5", 5);
        Edge.rowIs(x, 8, 6, 3, 1, 0, 1, 2, 3, 4);
    }

    private static void words() {
        Edge.of(8, "done: how many were run in this TEXT, latest: what the latest put in it told (-1: none), loose: how many SIGNS are LOOSE,");
        run(Houses::lived, "pass if done = 0", 1);
        run(Houses::lived, "cut 0 if 1=2; pass if done = 0; pass if done = 1; pass if done = 1", 2);
        run(Houses::lived, "pass times 20;".repeat(11) + "pass if done = 220", 221);
        BracketHouse twice = Houses.lived();
        Due.orders(with(twice, ""), "put 0 at 0");
        Edge.is("done is of this text alone", Due.orders(twice, "pass if done = 0"), 1);
        Edge.is("latest is of this text alone", Due.orders(twice, "pass if latest = 0 - 1"), 1);
        run(Houses::lived, "pass if latest = 0 - 1; put 0 at 4; pass if latest = 7; cut 0; turn 0 to 9; pass if latest = 7", 6);
        run(() -> Due.under("costs 0"), "put 0 at 0; pass if latest = 0", 2);
        run(() -> Due.under("costs 200"), "put 0 at 0; pass if latest = 99", 2);
        run(Houses::lived, "put 6 at 0 if 1=2; pass if latest = 0 - 1", 1);
        run(BracketHouse::new, "pass if loose = 0; put 0 at 0 times 20; pass if loose = 20", 22);
        run(BracketHouse::new, "put 0 at 0; pass if loose = 1; put 3 at 1; pass if loose = 0; put 6 at 1; pass if loose = 0; put 4 at 1; pass if loose = 1", 8);
        Edge.of(8, "Words: 'page' | 'done' | 'latest' | 'length' | 'loose' |");
        run(BracketHouse::new, "pass if page = 0; pass if page = 1; pass if length = 0; put 6 at 0 times 20; pass if length = 20", 24);
        BracketHouse x = new BracketHouse();
        x.terms(0, 998);
        Edge.is("page 998, then 999", Due.orders(x, "pass if page = 998; put 6 at 0 if page = 999"), 2);
    }

    private static void placeWords() {
        Edge.of(8, "sign, deep: -1 without such a PLACE.");
        run(BracketHouse::new, "pass if sign 0 = 0 - 1 and deep 0 = 0 - 1 and sign 19 = 0 - 1 and deep 19 = 0 - 1", 1);
        run(Houses::lived, "pass if sign 3 = 1; pass if sign 4 = 0 - 1; pass if deep 3 = 0; pass if deep 4 = 0 - 1", 4);
        run(() -> Houses.of(20, 11), "pass if sign 0 = 11; pass if sign 19 = 11; pass if deep 19 = 0", 3);
        run(() -> Due.house(0, 1, 6, 4, 3), "pass if deep 0 = 0; pass if deep 1 = 1; pass if deep 2 = 2; pass if deep 3 = 1; pass if deep 4 = 0", 5);
        // As the row is then, not as it was.
        run(() -> Due.house(0, 6, 3), "cut 2; pass if deep 1 = 0; pass if sign 2 = 0 - 1", 3);
        int[] deep = new int[20];
        for (int i = 10; i < 20; i++) deep[i] = 3;
        run(() -> Due.house(deep), "pass if deep 9 = 9; pass if deep 10 = 9; pass if deep 19 = 0", 3);
    }

    private static void kinds() {
        Edge.of(8, "(a SIGN, a PLACE; a PLACE; a PLACE, a SIGN; a PAGE.)");
        Edge.rowIs(run(Houses::lived, "put 9 at 2", 1), 8, 6, 9, 3, 1);
        Edge.rowIs(run(Houses::lived, "put 2 at 4", 1), 8, 6, 3, 1, 2);
        Edge.rowIs(run(Houses::lived, "cut 2", 1), 8, 6, 1);
        Edge.rowIs(run(Houses::lived, "turn 2 to 9", 1), 8, 6, 9, 1);
        Edge.is("pass", run(Houses::lived, "pass", 1).count(11), 9);
    }

    private static void cantBe() {
        Edge.of(8, "-3 one can't be;");
        String[] bad = {"put 12 at 0", "put 0-1 at 0", "put 0 at 5", "put 0 at 0-1", "put 2 at 1", "cut 4", "cut 0-1", "turn 0 to 12", "turn 0 to 0-1",
            "turn 4 to 0", "turn 0-1 to 0", "turn 0 to 8", "turn 1 to 2", "cut 1000*1000*1000", "put 0-1000*1000*1000 at 0"};
        for (String text : bad) {
            cant(Houses::lived, text, 0);
            cant(Houses::lived, "pass; put 6 at 0; cut 0; " + text + "; pass", 3);
        }
        String[] last = {"put 11 at 0", "put 0 at 4", "cut 3", "turn 3 to 11", "turn 0 to 0"};
        for (String text : last) run(Houses::lived, text, 1);
        cant(Houses::full, "put 0 at 0", 0);
        cant(Houses::full, "put 0 at 20", 0);
        cant(Houses::full, "cut 0; put 0 at 0; put 0 at 0", 2);
        run(Houses::full, "cut 0; put 0 at 0", 2);
        cant(Houses::bare, "cut 0", 0);
        cant(() -> atPage(999), "pass", 0);
        cant(() -> atPage(998), "pass times 2", 0);
        run(() -> atPage(998), "pass", 1);
        cant(() -> atPage(980), "pass times 20", 0);
        run(() -> atPage(979), "pass times 20", 20);
    }

    private static BracketHouse atPage(int page) {
        BracketHouse x = Houses.lived();
        x.terms(0, page);
        return x;
    }

    private static void brokenSums() {
        Edge.of(8, "One that can't be (a BROKEN SUM, as put(), cut(), turn(), pass() are REFUSED) ends it:");
        String[] broken = {"put 1/0 at 0", "put 0 at 1/0", "put 1%0 at 0", "cut 1/0", "cut 0%0", "turn 1/0 to 0", "turn 0 to 1/0", "cut 0*[1000*1000*1000+1]",
            "cut 0*[0-1000*1000*1000-1]", "cut [256*256]*[256*256]"};
        for (String text : broken) cant(Houses::lived, text, 0);
        run(Houses::lived, "cut 0*[1000*1000*1000]", 1);
        run(Houses::lived, "cut 0*[0-1000*1000*1000]", 1);
        cant(Houses::lived, "cut 1/0 times 3 if 1=1", 0);
    }

    private static void ends() {
        Edge.of(8, "One that can't be (a BROKEN SUM, as put(), cut(), turn(), pass() are REFUSED) ends it: all is as it was ahead of it.");
        cant(Houses::lived, "cut 9; cut 9", 0);
        cant(Houses::lived, "cut 9 if length = 3; cut 0; cut 9 if length = 3; cut 9", 2);
        cant(Houses::lived, "pass;".repeat(11) + "cut 9", 11);
        cant(Houses::lived, "cut 0 times 5", 0);
        run(Houses::lived, "cut 0 times 4", 4);
        cant(BracketHouse::new, "put 6 at 0 times 20; put 6 at 0", 1);
    }

    private static void allAsItWas() {
        Edge.of(8, "all is as it was ahead of it.");
        cant(Houses::lived, "put 6 at 0; cut 1; turn 0 to 7; pass; cut 9", 4);
        cant(Houses::lived, "pass times 20; cut 0 times 4; cut 0", 2);
        cant(Houses::full, "cut 0 times 20; put 6 at 0 times 20; pass times 20; put 0 at 0", 3);
        cant(() -> withDeeds(16), "pass times 20; cut 9", 1);
        cant(() -> withDeeds(17), "turn 0 to 9; cut 9", 1);
        BracketHouse x = withDeeds(16);
        Due.orders(x, "pass times 20; cut 9");
        for (int i = 0; i < 16; i++) Edge.is("undo() " + i, x.undo(), 2);
        Edge.is("undo() of one more", x.undo(), -3);
        Edge.rowIs(x, 6);
        for (int n = 1; n <= 18; n++) {
            int many = n;
            cant(() -> withPuts(many), "put 11 at 0; cut 0; turn 0 to 9; put 10 at 1 times 20", 3);
            cant(() -> withPuts(many), "pass times 17; cut length - 1; cut 20", 2);
        }
    }

    /** A house with so many names, each put in the middle of those ahead of it, so that each can be undone at one place alone. */
    private static BracketHouse withPuts(int n) {
        BracketHouse x = new BracketHouse();
        for (int i = 0; i < n; i++) x.put(6 + i % 5, (i + 1) / 2);
        return x;
    }

    /** A house with one sign that has been turned so often. */
    static BracketHouse withDeeds(int n) {
        BracketHouse x = Due.house(6);
        for (int i = 0; i < n; i++) x.turn(0, i % 2 == 0 ? 7 : 6);
        return x;
    }

    private static void inOrder() {
        Edge.of(8, "REFUSED by: -1 a number that can't be; -2 there is no such PLACE, LAW, IMAGE; -3 it can't be by what stands; -5 no room; -6 a TEXT that can't be.");
        // What is refused within them counts once, as theirs: by -3.
        for (String text : new String[] {"put 12 at 0", "cut 9", "turn 0 to 8", "cut 1/0"}) {
            BracketHouse x = with(new BracketHouse(), "");
            Due.row(x, 8);
            Due.orders(x, text);
            for (int what = 5; what <= 9; what++) Edge.is("count(" + what + ") behind " + text, x.count(what), what == 7 ? 1 : 0);
        }
        BracketHouse x = Houses.of(20, 6);
        Due.orders(x, "put 0 at 0");
        Edge.is("count(8), no room", x.count(8), 0);
        Edge.is("count(7), no room", x.count(7), 1);
    }
}
