/** Edges of promises 7 to 10: the two languages, how they are read, where the fault is. */
final class TextEdges {
    private static final String TAPE = "TEXTS are on a TAPE of at most 400 bytes.";
    private static final String TOKENS = "TOKENS: longest rows of letters a .. z, of digits, single other bytes, any blanks (32) between.";
    private static final String CLAUSES = "Of both languages: CLAUSE {';' CLAUSE}, 12 at most (FAULT at the 13th's first TOKEN).";
    private static final String TESTS = "TEST: BOTH {'or' BOTH}. BOTH: PLAIN {'and' PLAIN}.";
    private static final String PLAIN = "PLAIN: 'not' PLAIN | '(' TEST ')' | SUM ('<' | '>' | '=') SUM.";
    private static final String SUMS = "SUM: TERM {('+' | '-') TERM}. TERM: PART {('*' | '/' | '%') PART}.";
    private static final String PART = "PART: NUMBER (to 1,000) | '[' SUM ']' | a word, as told.";
    private static final String PARTS = "50 PARTS that are NUMBERS and words (FAULT at the 51st),";
    private static final String BRACKETS = "8 brackets of both kinds within one another (FAULT at the 9th) at most.";
    private static final String FAULT = "FAULT: the first TOKEN that can't go on there (the end's: the TEXT's length).";

    private TextEdges() { }

    static void all() {
        laws();
        lawsWithoutRoom();
        lawsOfBlanks();
        lengths();
        tokens();
        clauses();
        tests();
        sums();
        parts();
        brackets();
        lawClauses();
        orderClauses();
        times();
        places();
        ordersOfBlanks();
        fault();
        stopped();
    }

    /** A house with a text alone on its tape. */
    static BracketHouse with(BracketHouse x, String text) {
        x.end(0);
        Due.feed(x, text);
        return x;
    }

    static String times(String text, int n) {
        return text.repeat(n);
    }

    private static void lawIs(String text) {
        BracketHouse x = Edge.granted(() -> with(Houses.lived(), text), "law() of " + text, BracketHouse::law, 2);
        Edge.is("fault() of law " + text, x.fault(), -1);
        Edge.is("count(2) behind " + text, x.count(2), 3);
        Edge.is("count(4) behind " + text, x.count(4), 0);
        Edge.is("count(10) behind " + text, x.count(10), 0);
    }

    private static void lawFails(String text, int fault) {
        Edge.refused(() -> with(Houses.lived(), text), "law() of " + text, BracketHouse::law, -6, Edge.TAPE_EMPTIED, "fault()");
        BracketHouse x = with(Houses.lived(), text);
        x.law();
        Edge.is("fault() of law " + text, x.fault(), fault);
    }

    /** Orders that can be read, whether they can be run or not. */
    private static void ordersAre(String text) {
        BracketHouse x = with(Houses.lived(), text);
        x.orders();
        Edge.is("fault() of orders " + text, x.fault(), -1);
        Edge.is("status() behind " + text + " is not -6", x.status() == -6 ? 1 : 0, 0);
        Edge.is("count(4) behind " + text, x.count(4), 0);
    }

    private static void ordersFail(String text, int fault) {
        Edge.refused(() -> with(Houses.lived(), text), "orders() of " + text, BracketHouse::orders, -6, Edge.TAPE_EMPTIED, "fault()", "stopped()");
        BracketHouse x = with(Houses.lived(), text);
        x.orders();
        Edge.is("fault() of orders " + text, x.fault(), fault);
        Edge.is("stopped() of orders " + text, x.stopped(), -1);
    }

    private static void laws() {
        Edge.of(7, "The TAPE, which is empty then, becomes a LAW: its number.");
        BracketHouse x = new BracketHouse();
        for (int i = 0; i < 6; i++) {
            Edge.is("law() " + i, Due.law(x, "costs " + (20 + i)), i);
            Edge.is("count(4)", x.count(4), 0);
            Edge.is("count(2)", x.count(2), i + 1);
        }
        for (int i = 5; i >= 0; i--) {
            x.force(i);
            Edge.is("what law " + i + " costs", x.asks(0, 0, 0), 20 + i);
        }
        Edge.is("law() puts nothing in force", Houses.withLaws(6).count(10), -1);
        x = Edge.granted(Houses::lived, "law()", BracketHouse::law, 2);
        Edge.rowIs(x, Houses.LIVED_ROW);
        Edge.is("law() leaves what can be undone", x.count(3), 4);
        Edge.is("law() leaves stopped()", x.stopped(), 1);
    }

    private static void lawsWithoutRoom() {
        Edge.of(7, "LAWS, 6 at most;");
        Edge.granted(() -> with(Houses.withLaws(5), "bars"), "the 6th law()", BracketHouse::law, 5);
        Edge.refused(() -> with(Houses.withLaws(6), "bars"), "the 7th law()", BracketHouse::law, -5, Edge.TAPE_EMPTIED);
        BracketHouse x = Houses.withLaws(5);
        x.image(1);
        Due.law(x, "bars");
        Edge.is("no room", Due.law(x, "bars"), -5);
        x.back(1);
        Edge.is("room again behind back()", Due.law(x, "costs 50"), 5);
        Edge.is("and no more", Due.law(x, "bars"), -5);
        x.force(5);
        Edge.is("the law that came", x.asks(0, 0, 0), 50);
        Edge.of(7, "-5 (ahead of reading it; the TAPE is empty then, too);");
        Edge.refused(() -> with(Houses.withLaws(6), "costs 1 1"), "the 7th law(), with a fault", BracketHouse::law, -5, Edge.TAPE_EMPTIED);
        Edge.refused(() -> with(Houses.withLaws(6), "   "), "the 7th law(), blanks", BracketHouse::law, -5, Edge.TAPE_EMPTIED);
        Edge.refused(() -> Houses.withLaws(6), "the 7th law(), an empty tape", BracketHouse::law, -5, Edge.TAPE_EMPTIED);
        x = Houses.withLaws(6);
        Due.orders(x, "pass pass");
        Due.law(x, "bars x");
        Edge.is("fault() is that of what was read", x.fault(), 5);
        Edge.is("count(4)", x.count(4), 0);
    }

    private static void lawsOfBlanks() {
        Edge.of(7, "-6 (blanks alone: FAULT at the end).");
        for (int n : new int[] {0, 1, 20, 399, 400}) lawFails(times(" ", n), n);
    }

    private static void ordersOfBlanks() {
        Edge.of(8, "-6 (as for law()).");
        for (int n : new int[] {0, 1, 20, 399, 400}) ordersFail(times(" ", n), n);
        ordersFail("cut 0; cut 0; cut", 17);
        // A fault is told, not what could not be ahead of it: nothing is run.
        ordersFail("cut 99; x", 8);
    }

    private static void lengths() {
        Edge.of(7, TAPE);
        lawIs("bars" + times(" ", 396));
        lawIs(times(" ", 396) + "bars");
        lawFails(times(" ", 396) + "barz", 396);
        lawFails(times(" ", 395) + "bars;", 400);
        lawFails(times(" ", 395) + "costs", 400);
        lawIs("costs " + times("0", 394));
        // As many tokens as there are bytes.
        lawFails(times(";", 400), 0);
        lawFails(times(";1", 200), 0);
        lawFails("bars" + times("]", 396), 4);
        lawFails("costs " + times("0", 390) + "1001", 6);
        Edge.of(8, TAPE);
        ordersAre(times(" ", 396) + "pass");
        ordersFail(times(" ", 396) + "pas;", 396);
        ordersFail(times(" ", 397) + "cut", 400);
    }

    private static void tokens() {
        Edge.of(7, TOKENS);
        // Longest rows: of letters, of digits.
        lawIs("costs1if1=1");
        lawIs("costs 1if 1=1or 2=2and 3=3");
        lawFails("costs 1or 1", 7);
        lawFails("costs1if1=1orx", 11);
        lawFails("cos ts 1", 0);
        lawFails("costs 10 00", 9);
        lawFails("barsif 1=1", 0);
        lawFails("bars if 1=1and1=1and2", 21);
        // a, z, 0, 9 and the bytes beside them and beside the blank.
        lawFails("barsa", 0);
        lawFails("barsz", 0);
        lawIs("costs 0900");
        lawFails("costs 1009", 6);
        lawFails("bars`", 4);
        lawFails("bars{", 4);
        lawFails("barsA", 4);
        lawFails("costs 1/", 8);
        lawFails("costs 1:", 7);
        lawFails("bars\u001f", 4);
        lawFails("bars!", 4);
        lawFails("\tbars", 0);
        lawFails("bars\n", 4);
        lawFails("bars\0", 4);
        lawFails("bars\u00a0", 4);
        lawFails("bars\u00ff", 4);
        lawFails("bars\u00e1", 4);
        // Any blanks: none, one, many.
        lawIs("  bars  ;  bars  ");
        lawIs("bars;bars");
        Edge.of(8, TOKENS);
        ordersAre("put6at0times1if1=2");
        ordersFail("put6at0times1if1=2x", 18);
        ordersFail("passes", 0);
        ordersFail("pass\u007f", 4);
        ordersFail("PASS", 0);
    }

    private static void clauses() {
        Edge.of(7, CLAUSES);
        lawIs("bars");
        lawIs(times("bars;", 11) + "bars");
        lawFails(times("bars;", 12) + "bars", 60);
        lawFails(times("bars;", 12) + "   bars", 63);
        lawFails(times("bars;", 12) + "x", 60);
        lawFails(times("bars;", 12), 60);
        lawFails(times("bars;", 12) + "  ", 62);
        lawFails(times("bars;", 11) + "bars bars", 60);
        lawFails(";", 0);
        lawFails("bars;;bars", 5);
        lawFails(";bars", 0);
        lawFails("bars;", 5);
        Edge.of(8, CLAUSES);
        ordersAre(times("pass;", 11) + "pass");
        ordersFail(times("pass;", 12) + "pass", 60);
        ordersFail(times("pass;", 12) + " cut 99", 61);
        ordersFail(times("pass;", 12), 60);
        ordersFail("pass;", 5);
    }

    private static void tests() {
        Edge.of(7, TESTS);
        lawIs("bars if 1=1 or 1=1 or 1=1 and 1=1 and 1=1 or 1=1");
        lawFails("bars if or 1=1", 8);
        lawFails("bars if and 1=1", 8);
        lawFails("bars if 1=1 or", 14);
        lawFails("bars if 1=1 and", 15);
        lawFails("bars if 1=1 or or 1=1", 15);
        lawFails("bars if 1=1 and or 1=1", 16);
        lawFails("bars if 1=1 or and 1=1", 15);
        lawFails("bars if", 7);
        lawFails("bars if ;", 8);
        Edge.of(7, PLAIN);
        lawIs("bars if not not not 1=1");
        lawIs("bars if not(1<1)or not(1>1)");
        lawFails("bars if not", 11);
        lawFails("bars if 1 not = 1", 10);
        lawFails("bars if 1=not 1", 10);
        lawFails("bars if ()", 9);
        lawFails("bars if (1=1", 12);
        lawFails("bars if (1=1]", 12);
        lawFails("bars if 1=1)", 11);
        lawFails("bars if (1)=1", 10);
        lawFails("bars if 1", 9);
        lawFails("bars if 1+", 10);
        lawFails("bars if 1=", 10);
        lawFails("bars if =1", 8);
        lawFails("bars if 1==1", 10);
        lawFails("bars if 1<=1", 10);
        lawFails("bars if 1=1=1", 11);
        lawFails("bars if 1<2>1", 11);
        lawFails("bars if 1!1", 9);
        lawIs("bars if " + times("not ", 97) + "1=1");
        lawFails("bars if " + times("not ", 98), 400);
        Edge.of(8, PLAIN);
        ordersAre("pass if not (1=1 or 2=2)");
        ordersAre("pass if " + times("not ", 97) + "1=1");
        ordersFail("pass if (1)=1", 10);
        ordersFail("pass if 1==1", 10);
        Edge.of(8, TESTS);
        ordersAre("pass if 1=2 or 1=2 and 1=1");
        ordersFail("pass if 1=1 or", 14);
        ordersFail("pass if", 7);
    }

    private static void sums() {
        Edge.of(7, SUMS);
        lawIs("costs 1+1-1*1/1%1");
        lawFails("costs +1", 6);
        lawFails("costs -1", 6);
        lawFails("costs 1+", 8);
        lawFails("costs 1-", 8);
        lawFails("costs 1*", 8);
        lawFails("costs 1/", 8);
        lawFails("costs 1%", 8);
        lawFails("costs 1+-1", 8);
        lawFails("costs 1**1", 8);
        lawFails("costs 1+*1", 8);
        lawFails("costs 1 1", 8);
        lawFails("costs 1^1", 7);
        Edge.of(8, SUMS);
        ordersAre("cut 99+1-1*1/1%1");
        ordersFail("cut -1", 4);
        ordersFail("cut 1+", 6);
        ordersFail("put 1 1 at 0", 6);
        Edge.of(7, PART);
        lawIs("costs 0");
        lawIs("costs 1000");
        lawIs("costs 0001000");
        lawIs("costs [1]");
        lawFails("costs 1001", 6);
        lawFails("costs 9999", 6);
        lawFails("costs 0001001", 6);
        // These would come to 1 and to 0, if they wrapped around.
        lawFails("costs 4294967297", 6);
        lawFails("costs 18446744073709551616", 6);
        lawFails("costs " + times("9", 394), 6);
        lawFails("bars if 1001=1", 8);
        lawFails("bars if 1=1001", 10);
        lawFails("costs []", 7);
        lawFails("costs [1", 8);
        lawFails("costs [1)", 8);
        lawFails("costs 1]", 7);
        lawFails("costs (1)", 6);
        lawFails("costs [1=1]", 8);
        Edge.of(8, PART);
        ordersAre("cut 1000");
        ordersFail("cut 1001", 4);
        ordersFail("cut 4294967297", 4);
        ordersFail("put 1001 at 0", 4);
        ordersFail("put 0 at 1001", 9);
        ordersFail("turn 0 to 1001", 10);
        ordersFail("pass if 1001=1", 8);
    }

    private static void parts() {
        Edge.of(7, PARTS);
        lawIs("costs " + times("1+", 49) + "1");
        lawFails("costs " + times("1+", 50) + "1", 106);
        lawFails("costs " + times("1+", 50) + "page", 106);
        lawFails("costs " + times("1+", 50) + "x", 106);
        lawFails("costs " + times("1+", 50), 106);
        lawFails("costs " + times("1+", 50) + "[1]", 107);
        lawFails("costs " + times("1+", 50) + "1001", 106);
        lawIs("costs " + times("[1]+", 49) + "[1]");
        lawIs("costs " + times("sign+", 49) + "sign");
        lawFails("costs " + times("sign+", 49) + "sign+sign", 6 + 250);
        // Of all clauses and tests together.
        lawIs("costs 1+1 if " + times("1=1 or ", 23) + "1=1");
        lawFails("costs 1 if " + times("1=1 or ", 24) + "1=1", 11 + 24 * 7 + 2);
        lawIs(times("bars if 1=1;", 11) + "costs " + times("1+", 27) + "1");
        lawFails(times("bars if 1=1;", 11) + "costs " + times("1+", 28) + "1", 11 * 12 + 6 + 56);
        Edge.of(8, PARTS);
        ordersAre("cut " + times("1+", 49) + "1");
        ordersFail("cut " + times("1+", 50) + "1", 104);
        ordersAre("put " + times("1+", 24) + "1 at " + times("1+", 24) + "1");
        ordersFail("put " + times("1+", 24) + "1 at " + times("1+", 25) + "1", 4 + 48 + 5 + 50);
        ordersFail("cut " + times("1+", 50) + "sign 0", 104);
        ordersFail("cut " + times("1+", 50) + "sign 20", 104);
        Edge.of(8, "P, TIMES aside, NUMBERS and words count as PARTS.");
        ordersAre("cut " + times("sign 0+", 49) + "deep 0");
        ordersFail("cut " + times("sign 0+", 49) + "deep 0+1", 4 + 49 * 7 + 7);
        ordersAre("pass times 2;cut " + times("1+", 49) + "1 times 3;pass times 4");
        ordersFail("pass times 2;cut " + times("1+", 49) + "1 times 3;cut 1", 13 + 4 + 98 + 1 + 9 + 4);
        ordersFail("cut " + times("page+", 49) + "page+done", 4 + 250);
    }

    private static void brackets() {
        Edge.of(7, BRACKETS);
        lawIs("costs " + times("[", 8) + "1" + times("]", 8));
        lawFails("costs " + times("[", 9) + "1" + times("]", 9), 14);
        lawIs("bars if " + times("(", 8) + "1=1" + times(")", 8));
        lawFails("bars if " + times("(", 9) + "1=1" + times(")", 9), 16);
        lawIs("bars if " + times("(", 7) + "[1]=1" + times(")", 7));
        lawFails("bars if " + times("(", 8) + "[1]=1" + times(")", 8), 16);
        lawFails("bars if " + times("(", 8) + "1=[1]" + times(")", 8), 18);
        lawIs("bars if " + times("(", 8) + "1=1" + times(")", 8) + "and[1]=1");
        // Those that are closed are not counted on.
        lawIs("costs " + times("[1]+", 30) + times("[", 8) + "1" + times("]", 8));
        lawIs("bars if " + times("(1=1)or", 10) + times("(", 8) + "1=1" + times(")", 8));
        lawIs("costs " + times("[", 8) + "1" + times("]", 8) + "+" + times("[", 8) + "1" + times("]", 8));
        lawFails("costs " + times("[", 394), 14);
        lawFails("bars if " + times("(", 392), 16);
        lawFails("bars if " + times("not(", 98), 8 + 8 * 4 + 3);
        BracketHouse x = new BracketHouse();
        for (int i = 0; i < 3; i++) {
            Edge.is("law() with nine, once more", Due.law(x, "costs " + times("[", 9) + "1" + times("]", 9)), -6);
            Edge.is("fault()", x.fault(), 14);
            Edge.is("law() with eight behind it", Due.law(x, "costs " + times("[", 8) + "1" + times("]", 8)), i);
        }
        Edge.of(8, BRACKETS);
        ordersAre("cut " + times("[", 8) + "99" + times("]", 8));
        ordersFail("cut " + times("[", 9) + "99" + times("]", 9), 12);
        ordersAre("put " + times("[", 8) + "99" + times("]", 8) + "at" + times("[", 8) + "99" + times("]", 8));
        ordersFail("pass if " + times("(", 9) + "1=1" + times(")", 9), 16);
        ordersFail("pass if " + times("(", 5) + times("[", 4) + "1" + times("]", 4) + "=1" + times(")", 5), 16);
    }

    private static void lawClauses() {
        Edge.of(7, "CLAUSE: (('costs' | 'strikes' | 'worth') SUM | 'bars') ['if' TEST].");
        for (String word : new String[] {"costs", "strikes", "worth"}) {
            lawIs(word + " 1");
            lawIs(word + " 1 if 1=1");
            lawFails(word, word.length());
            lawFails(word + " if 1=1", word.length() + 1);
            lawFails(word + " 1 if", word.length() + 5);
            lawFails(word + " 1 times 2", word.length() + 3);
            lawFails(word + " 1 if 1=1 if 1=1", word.length() + 10);
        }
        lawIs("bars");
        lawIs("bars if 1=1");
        lawFails("bars 1", 5);
        lawFails("if 1=1", 0);
        lawFails("1", 0);
        lawFails("put 0 at 0", 0);
        lawFails("pass", 0);
        lawFails("bar", 0);
        lawFails("barss", 0);
        Edge.of(7, "Words: 'sign' | 'kind' | 'open' | 'person' | 'place' | 'length' | 'page' | 'mood'.");
        for (String word : new String[] {"sign", "kind", "open", "person", "place", "length", "page", "mood"}) lawIs("costs " + word);
        for (String word : new String[] {"done", "latest", "loose", "deep", "deep 1", "if", "or", "costs", "signs", "sig", "x"}) lawFails("costs " + word, 6);
        lawFails("costs sign 1", 11);
    }

    private static void orderClauses() {
        Edge.of(8, "ORDERS: CLAUSE: ('put' SUM 'at' SUM | 'cut' SUM | 'turn' SUM 'to' SUM | 'pass') ['times' TIMES] ['if' TEST].");
        ordersAre("put 99 at 0 times 2 if 1=1");
        ordersAre("cut 99 times 2 if 1=1");
        ordersAre("turn 99 to 0 times 2 if 1=1");
        ordersAre("pass times 2 if 1=1");
        ordersFail("put", 3);
        ordersFail("put 0", 5);
        ordersFail("put at 0", 4);
        ordersFail("put 0 at", 8);
        ordersFail("put 0 to 0", 6);
        ordersFail("put 0 0", 6);
        ordersFail("put 0 at 0 at 0", 11);
        ordersFail("cut", 3);
        ordersFail("cut 0 at 0", 6);
        ordersFail("turn", 4);
        ordersFail("turn 0", 6);
        ordersFail("turn 0 at 0", 7);
        ordersFail("turn 0 to", 9);
        ordersFail("pass 1", 5);
        ordersFail("pass if 1=1 times 2", 12);
        ordersFail("pass times 2 times 2", 13);
        ordersFail("pass if 1=1 if 1=1", 12);
        ordersFail("costs 1", 0);
        ordersFail("bars", 0);
        ordersFail("undo", 0);
        Edge.of(8, "Words: 'page' | 'done' | 'latest' | 'length' | 'loose' | 'sign' P | 'deep' P (P: a NUMBER 0 .. 19).");
        for (String word : new String[] {"page", "done", "latest", "length", "loose", "sign 1", "deep 1"}) ordersAre("cut 99+" + word);
        for (String word : new String[] {"kind", "open", "person", "place", "mood", "times", "put", "x"}) ordersFail("cut " + word, 4);
    }

    private static void times() {
        Edge.of(8, "TIMES: a NUMBER 1 .. 20.");
        ordersAre("pass times 1");
        ordersAre("pass times 20");
        ordersAre("pass times 0020");
        ordersFail("pass times 0", 11);
        ordersFail("pass times 21", 11);
        ordersFail("pass times 1001", 11);
        ordersFail("pass times 4294967297", 11);
        ordersFail("pass times", 10);
        ordersFail("pass times page", 11);
        ordersFail("pass times [1]", 11);
        ordersFail("pass times 1+1", 12);
        ordersFail("pass times if 1=1", 11);
    }

    private static void places() {
        Edge.of(8, "'sign' P | 'deep' P (P: a NUMBER 0 .. 19).");
        for (String word : new String[] {"sign", "deep"}) {
            ordersAre("cut 99+" + word + " 0");
            ordersAre("cut 99+" + word + " 19");
            ordersAre("cut 99+" + word + "019");
            ordersFail("cut " + word + " 20", 9);
            ordersFail("cut " + word + " 1001", 9);
            ordersFail("cut " + word + " 4294967296", 9);
            ordersFail("cut " + word, 8);
            ordersFail("cut " + word + " -1", 9);
            ordersFail("cut " + word + " page", 9);
            ordersFail("cut " + word + " [1]", 9);
            ordersFail("cut " + word + "+1", 8);
        }
    }

    private static void fault() {
        Edge.of(9, "FAULT of the latest law(), orders() that read a TEXT: its place;");
        Edge.asked(Houses::lived, "fault()", BracketHouse::fault, 8);
        BracketHouse x = new BracketHouse();
        Due.law(x, "bars x");
        Edge.is("fault() of law()", x.fault(), 5);
        Due.orders(x, "cut");
        Edge.is("fault() of orders() behind it", x.fault(), 3);
        x.row();
        Due.row(x, 0, 99);
        x.cut(99);
        x.image(0);
        x.back(0);
        Edge.is("fault() behind other calls", x.fault(), 3);
        x.law();
        Edge.is("fault() of an empty tape", x.fault(), 0);
        Edge.of(9, "NONE without.");
        Edge.asked(BracketHouse::new, "fault() of a new object", BracketHouse::fault, -1);
        Due.law(x, "bars");
        Edge.is("fault() of a law", x.fault(), -1);
        Due.orders(x, "cut");
        Due.orders(x, "cut 99");
        Edge.is("fault() of orders that can be read and can't be run", x.fault(), -1);
        Edge.of(9, FAULT);
        int[] places = {0, 1, 398, 399};
        for (int place : places) {
            Due.law(x, times(" ", place) + "x" + times(" ", 399 - place));
            Edge.is("fault() at " + place, x.fault(), place);
        }
        Due.law(x, "costs" + times(" ", 395));
        Edge.is("fault() at the end, behind blanks", x.fault(), 400);
        Due.law(x, "costs");
        Edge.is("fault() at the end of a short text", x.fault(), 5);
        Due.law(x, "costs x y z");
        Edge.is("fault() at the first of many", x.fault(), 6);
    }

    private static void stopped() {
        Edge.of(10, "Which CLAUSE of the latest orders() could not be.");
        Edge.asked(Houses::lived, "stopped()", BracketHouse::stopped, 1);
        BracketHouse x = new BracketHouse();
        Due.orders(x, "cut 0");
        Edge.is("stopped() of the first", x.stopped(), 0);
        Due.orders(x, times("pass;", 11) + "cut 0");
        Edge.is("stopped() of the 12th", x.stopped(), 11);
        Due.orders(x, "pass;put 6 at 0;cut 0 times 2;pass;pass");
        Edge.is("stopped() of one of many times", x.stopped(), 2);
        Due.orders(x, "cut 0 if 1=2;cut 0 if 1=2;cut 0");
        Edge.is("stopped() behind clauses that were not run", x.stopped(), 2);
        Due.law(x, "x");
        x.row();
        x.cut(0);
        x.image(0);
        x.back(0);
        Edge.is("stopped() behind other calls", x.stopped(), 2);
        Edge.of(10, "NONE.");
        Edge.asked(BracketHouse::new, "stopped() ahead of any", BracketHouse::stopped, -1);
        Due.orders(x, "pass");
        Edge.is("stopped() of orders that could be", x.stopped(), -1);
        Due.orders(x, "cut 0");
        Due.orders(x, "cut");
        Edge.is("stopped() of orders with a fault", x.stopped(), -1);
        Due.orders(x, "cut 0");
        x.orders();
        Edge.is("stopped() of an empty tape", x.stopped(), -1);
    }
}
