/** The two languages: where FAULT is, what is BROKEN, what words tell. */
public final class TextsTest {
    public static void main(String[] args) {
        goodTexts();
        lawFaults();
        orderFaults();
        manyClauses();
        manyParts();
        manyBrackets();
        manyNots();
        sums();
        tests();
        words();
        Due.close();
    }

    private static void lawIs(String text, int fault) {
        BracketHouse x = new BracketHouse();
        Due.is("law " + text, Due.law(x, text), fault < 0 ? 0 : -6);
        Due.is("fault of law " + text, x.fault(), fault);
        Due.is("laws behind " + text, x.count(2), fault < 0 ? 1 : 0);
        Due.is("tape behind " + text, x.count(4), 0);
    }

    private static void ordersAre(String text, int fault) {
        BracketHouse x = new BracketHouse();
        int told = Due.orders(x, text);
        Due.is("orders " + text, told == -6 ? 1 : 0, fault < 0 ? 0 : 1);
        Due.is("fault of orders " + text, x.fault(), fault);
        Due.is("tape behind " + text, x.count(4), 0);
    }

    private static void goodTexts() {
        String[] laws = {"bars", "costs 1", "costs1", "  costs  1  ", "costs[1]", "costs 1if 1=1", "bars if(1=1)", "bars;bars", "costs 1000", "costs 0001000",
            "bars if not not 1=1", "bars if not(1=1)or 2<3and[1]>2", "costs sign+kind-open*person/place%length", "worth page;strikes mood"};
        for (String text : laws) lawIs(text, -1);
        String[] orders = {"pass", "put 1at 0", "put1at0times1", "pass times 20 if 1=1", "pass times 020", "cut sign 0", "cut deep19", "turn 0 to 1",
            "pass if page=done or latest<length and loose>0"};
        for (String text : orders) ordersAre(text, -1);
    }

    private static void lawFaults() {
        lawIs("", 0);
        lawIs("     ", 5);
        lawIs(";", 0);
        lawIs("bars;", 5);
        lawIs("bars;  ", 7);
        lawIs("bars;;bars", 5);
        lawIs("bar", 0);
        lawIs("barss", 0);
        lawIs("Bars", 0);
        lawIs("barsz", 0);
        lawIs("barsa", 0);
        lawIs("costs1z", 6);
        lawIs("if 1=1", 0);
        lawIs("bars 1", 5);
        lawIs("bars bars", 5);
        lawIs("bars times 2", 5);
        lawIs("bars if", 7);
        lawIs("bars if 1", 9);
        lawIs("bars if 1=", 10);
        lawIs("bars if 1==1", 10);
        lawIs("bars if 1<>1", 10);
        lawIs("bars if 1=1=1", 11);
        lawIs("bars if 1=1 or", 14);
        lawIs("bars if 1=1 and;", 15);
        lawIs("bars if or 1=1", 8);
        lawIs("bars if 1=1 not 1=1", 12);
        lawIs("bars if not", 11);
        lawIs("bars if (1=1", 12);
        lawIs("bars if (1)=1", 10);
        lawIs("bars if [1=1]", 10);
        lawIs("bars if (1=1]", 12);
        lawIs("bars if ()", 9);
        lawIs("bars if 1=1)", 11);
        lawIs("bars if 1=1 if 1=1", 12);
        lawIs("costs", 5);
        lawIs("costs ", 6);
        lawIs("costs if 1=1", 6);
        lawIs("costs 1 2", 8);
        lawIs("costs 1001", 6);
        lawIs("costs 99999999999999999999999999", 6);
        lawIs("costs 4294967297", 6);
        lawIs("costs -1", 6);
        lawIs("costs +1", 6);
        lawIs("costs 1+", 8);
        lawIs("costs 1+*2", 8);
        lawIs("costs (1)", 6);
        lawIs("costs [1", 8);
        lawIs("costs [1)", 8);
        lawIs("costs []", 7);
        lawIs("costs 1]", 7);
        lawIs("costs x", 6);
        lawIs("costs done", 6);
        lawIs("costs deep 1", 6);
        lawIs("costs sign 1", 11);
        lawIs("costs signs", 6);
        lawIs("costs 1\t", 7);
        lawIs("costs 1\0", 7);
        lawIs("costs \u00e9", 6);
        lawIs("costs 1, 2", 7);
        lawIs("put 1 at 0", 0);
        lawIs("costs not 1", 6);
    }

    private static void orderFaults() {
        ordersAre("", 0);
        ordersAre("  ", 2);
        ordersAre("costs 1", 0);
        ordersAre("put", 3);
        ordersAre("put 1", 5);
        ordersAre("put 1 to 2", 6);
        ordersAre("put 1 at", 8);
        ordersAre("put at 1", 4);
        ordersAre("cut", 3);
        ordersAre("cut 1 at 1", 6);
        ordersAre("turn 1 at 2", 7);
        ordersAre("turn 1 to", 9);
        ordersAre("pass 1", 5);
        ordersAre("pass times", 10);
        ordersAre("pass times 0", 11);
        ordersAre("pass times 21", 11);
        ordersAre("pass times page", 11);
        ordersAre("pass times 1+1", 12);
        ordersAre("pass times 2 times 2", 13);
        ordersAre("pass if 1=1 times 2", 12);
        ordersAre("cut sign", 8);
        ordersAre("cut sign 20", 9);
        ordersAre("cut sign page", 9);
        ordersAre("cut sign [1]", 9);
        ordersAre("cut deep 99999999999", 9);
        ordersAre("cut mood", 4);
        ordersAre("cut kind", 4);
        ordersAre("cut place", 4);
        ordersAre("cut 1001", 4);
        ordersAre("cut times 2", 4);
        ordersAre("pass; pass; x", 12);
        BracketHouse x = Due.house(6);
        Due.is("nothing is run of orders with a fault", Due.orders(x, "cut 0; cut"), -6);
        Due.rowIs("nothing is run", x, 6);
    }

    private static String times(String text, int n) {
        StringBuilder b = new StringBuilder();
        for (int i = 0; i < n; i++) b.append(text);
        return b.toString();
    }

    private static void manyClauses() {
        lawIs(times("bars;", 11) + "bars", -1);
        lawIs(times("bars;", 12) + "bars", 60);
        lawIs(times("bars;", 12) + "  bars", 62);
        lawIs(times("bars;", 12) + "x", 60);
        lawIs(times("bars;", 12) + " ", 61);
        lawIs(times("bars;", 11), 55);
        ordersAre(times("pass;", 11) + "pass", -1);
        ordersAre(times("pass;", 12) + " pass", 61);
        BracketHouse x = new BracketHouse();
        Due.is("12 clauses of 20 times", Due.orders(x, times("pass times 20;", 11) + "pass times 20"), 240);
        Due.is("240 pages", x.count(11), 240);
        Due.is("the latest 16 of them", x.count(3), 16);
    }

    private static void manyParts() {
        lawIs("costs " + times("1+", 49) + "1", -1);
        lawIs("costs " + times("1+", 50) + "1", 106);
        lawIs("costs " + times("1+", 50), 106);
        lawIs("costs " + times("1+", 50) + "x", 106);
        lawIs("costs " + times("1+", 50) + "[1]", 107);
        lawIs("costs " + times("[1]+", 49) + "1", -1);
        // Of all clauses, of tests and of words.
        lawIs("costs " + times("1+", 24) + "1;costs " + times("page+", 24) + "page", -1);
        lawIs("costs " + times("1+", 24) + "1;costs " + times("page+", 24) + "page if 1=1", 190);
        // P and TIMES aside.
        ordersAre("cut " + times("sign 1+", 49) + "1", -1);
        ordersAre("cut " + times("sign 1+", 49) + "sign 1", -1);
        ordersAre("cut " + times("sign 1+", 50) + "deep 1", 354);
        ordersAre("pass times 2;cut " + times("1+", 49) + "1 times 2", -1);
        ordersAre("pass times 2;cut " + times("1+", 50) + "1 times 2", 117);
    }

    private static void manyBrackets() {
        lawIs("costs " + times("[", 8) + "1" + times("]", 8), -1);
        lawIs("costs " + times("[", 9) + "1" + times("]", 9), 14);
        lawIs("bars if " + times("(", 8) + "1=1" + times(")", 8), -1);
        lawIs("bars if " + times("(", 9) + "1=1" + times(")", 9), 16);
        lawIs("bars if " + times("(", 4) + times("[", 4) + "1" + times("]", 4) + "=1" + times(")", 4), -1);
        lawIs("bars if " + times("(", 4) + times("[", 5) + "1" + times("]", 5) + "=1" + times(")", 4), 16);
        // One beside the other is not one within the other.
        lawIs("costs " + times("[1]+", 20) + times("[", 8) + "1" + times("]", 8), -1);
        lawIs("bars if " + times("(1=1) or ", 10) + times("(", 8) + "1=1" + times(")", 8), -1);
        lawIs("costs " + times("[", 394), 14);
        lawIs(times(";", 400), 0);
        lawIs("bars" + times("]", 396), 4);
    }

    private static void manyNots() {
        lawIs("bars if " + times("not ", 97) + "1=1", -1);
        Due.is("an odd number", Due.under("bars if " + times("not ", 97) + "1=1").asks(0, 0, 3), 0);
        Due.is("an even number", Due.under("bars if " + times("not ", 96) + "1=1").asks(0, 0, 3), 1);
        lawIs("bars if " + times("not ", 98), 400);
        lawIs("bars if " + times("not(", 8) + "1=1" + times(")", 8), -1);
        lawIs("bars if " + times("not(", 9) + "1=1" + times(")", 9), 43);
    }

    private static void sumIs(String sum, int want) {
        Due.is("costs " + sum, Due.under("costs 77; costs " + sum).asks(0, 0, 0), want);
    }

    private static void sums() {
        sumIs("2+3*4", 14);
        sumIs("[2+3]*4", 20);
        sumIs("20-3-4", 13);
        sumIs("20-[3-4]", 21);
        sumIs("90/4/2", 11);
        sumIs("90/[4/2]", 45);
        sumIs("90%7*2", 12);
        sumIs("50+[0-7]/2", 47);
        sumIs("50+[0-7]%2", 49);
        sumIs("50+7%[0-2]", 51);
        sumIs("50+7/[0-2]", 47);
        sumIs("1/0", 77);
        sumIs("1%0", 77);
        sumIs("0*[1/0]", 77);
        sumIs("1000*1000*1000/1000/1000/100", 10);
        sumIs("[1000*1000*1000+1]*0", 77);
        sumIs("[0-1000*1000*1000]*0+5", 5);
        sumIs("[0-1000*1000*1000-1]*0+5", 77);
        sumIs("1000*1000*1000*1000/1000/1000/1000/100", 77);
        sumIs("1000*1000*1000*1000*1000*1000*1000*1000", 77);
        sumIs("1000", 99);
        sumIs("0-1", 0);
    }

    private static void testIs(String test, int want) {
        Due.is("bars if " + test, Due.under("bars if " + test).asks(0, 0, 3), want);
        int run = Due.orders(new BracketHouse(), "pass if " + test);
        Due.is("pass if " + test, run, want);
    }

    private static void tests() {
        testIs("1<2", 1);
        testIs("2<1", 0);
        testIs("1<1", 0);
        testIs("2>1", 1);
        testIs("1>1", 0);
        testIs("1=1", 1);
        testIs("1=2", 0);
        testIs("1=1 or 1=1 and 1=2", 1);
        testIs("(1=1 or 1=1) and 1=2", 0);
        testIs("1=2 and 1=1 or 1=1", 1);
        testIs("not 1=2 and 1=2", 0);
        testIs("not (1=2 and 1=2)", 1);
        testIs("not 1=1 or 1=1", 1);
        testIs("1=1 or 1/0=1", 1);
        testIs("1=2 or 1/0=1", 0);
        testIs("1/0=1 or 1=1", 0);
        testIs("1=2 and 1/0=1 or 1=1", 1);
        testIs("1=1 and 1/0=1 or 1=1", 0);
        testIs("not 1/0=1", 0);
        testIs("not (1=2 and 1/0=1)", 1);
        testIs("1=2 or 1=2 or 1=1 or 1/0=1", 1);
        testIs("1=1 and 1=1 and 1=2 and 1/0=1 or 2=2", 1);
        testIs("(1=1 or 1/0=1) and (1=2 or 1=1)", 1);
        testIs("1000*1000*1000+1>0", 0);
    }

    private static void words() {
        BracketHouse x = Due.house(0, 6, 3);
        x.terms(0, 31);
        x.terms(2, 8);
        String[] word = {"sign", "kind", "open", "person", "place", "length", "page", "mood"};
        int[][] want = {{1, 1, 1, -1, 2, 3, 31, 8}, {5, 2, 0, -1, 2, 3, 31, 8}, {10, -1, 0, 4, 2, 3, 31, 8}, {6, -1, 0, 0, 2, 3, 31, 8}, {3, 0, 0, -1, 2, 3, 31, 8},
            {2, 2, 1, -1, 2, 3, 31, 8}};
        int[] signs = {1, 5, 10, 6, 3, 2};
        x.image(0);
        for (int w = 0; w < word.length; w++) {
            x.back(0);
            x.force(Due.law(x, "costs " + word[w] + "+10"));
            for (int i = 0; i < signs.length; i++) Due.is(word[w] + " of " + signs[i], x.asks(signs[i], 2, 0), want[i][w] + 10);
        }
    }
}
