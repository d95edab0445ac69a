/** Edges of promises 11 and 12: which law is in force, what it tells of a sign and a place. */
final class LawEdges {
    private static final String BROKEN =
        "Beyond 1,000,000,000 either way, or divided by 0 (/ cut towards 0, % what is left then), a SUM, a TEST is BROKEN";

    private LawEdges() { }

    static void all() {
        forced();
        forcedWithout();
        asked();
        askedBeyond();
        words();
        wordsAtTheirEnds();
        holding();
        amounts();
        barred();
        broken();
        divided();
        brokenTests();
        ordered();
    }

    private static void forced() {
        Edge.of(11, "A LAW is in FORCE (NONE: none): which was.");
        BracketHouse x = Houses.withLaws(6);
        Edge.is("force(0)", x.force(0), -1);
        Edge.is("force(5), the last one", x.force(5), 0);
        Edge.is("what it costs", x.asks(0, 0, 0), 15);
        Edge.is("force(5) once more", x.force(5), 5);
        Edge.is("force(-1)", x.force(-1), 5);
        Edge.is("what it costs", x.asks(0, 0, 0), 1);
        Edge.is("force(-1) once more", x.force(-1), -1);
        Edge.granted(Houses::lived, "force(1)", y -> y.force(1), 0);
        x = Edge.granted(Houses::lived, "force(-1)", y -> y.force(-1), 0);
        Edge.is("count(10)", x.count(10), -1);
        Edge.is("count(2)", x.count(2), 2);
        Edge.is("count(3)", x.count(3), 4);
        Edge.granted(BracketHouse::new, "force(-1) without laws", y -> y.force(-1), -1);
    }

    private static void forcedWithout() {
        Edge.of(11, "-2.");
        for (int law : new int[] {-2, 2, 5, 6, Integer.MIN_VALUE, Integer.MAX_VALUE}) Edge.refused(Houses::lived, "force(" + law + ")", x -> x.force(law), -2);
        Edge.refused(BracketHouse::new, "force(0) without laws", x -> x.force(0), -2);
        Edge.refused(() -> Houses.withLaws(6), "force(6) of six", x -> x.force(6), -2);
        BracketHouse x = Houses.withLaws(1);
        x.image(0);
        Due.law(x, "bars");
        Edge.is("force(1)", x.force(1), -1);
        x.back(0);
        Edge.is("force(1) of a law that is no more", x.force(1), -2);
        Edge.is("count(10)", x.count(10), -1);
    }

    private static void asked() {
        Edge.of(12, "Of a SIGN 0 .. 11 and a PLACE 0 .. length what it COSTS (what 0), STRIKES for (1), is WORTH (2), whether BARRED (3: 1, 0).");
        Edge.asked(Houses::lived, "asks(0, 0, 0)", x -> x.asks(0, 0, 0), 3);
        Edge.asked(Houses::lived, "asks(11, 4, 0)", x -> x.asks(11, 4, 0), 7);
        Edge.asked(Houses::lived, "asks(11, 4, 1)", x -> x.asks(11, 4, 1), 9);
        Edge.asked(Houses::lived, "asks(11, 4, 2)", x -> x.asks(11, 4, 2), 11);
        Edge.asked(Houses::lived, "asks(0, 4, 2)", x -> x.asks(0, 4, 2), 0);
        Edge.asked(Houses::lived, "asks(2, 1, 3)", x -> x.asks(2, 1, 3), 1);
        Edge.asked(Houses::lived, "asks(2, 0, 3)", x -> x.asks(2, 0, 3), 0);
        Edge.asked(Houses::lived, "asks(2, 2, 3)", x -> x.asks(2, 2, 3), 0);
        Edge.asked(BracketHouse::new, "asks(0, 0, 0) of an empty row", x -> x.asks(0, 0, 0), 1);
        Edge.asked(Houses::full, "asks(0, 20, 0) of a full row", x -> x.asks(0, 20, 0), 23);
    }

    private static void askedBeyond() {
        Edge.of(12, "NONE.");
        int[][] beyond = {{-1, 0, 0}, {12, 0, 0}, {0, -1, 0}, {0, 5, 0}, {0, 0, -1}, {0, 0, 4}, {12, 5, 4}};
        for (int[] b : beyond) Edge.asked(Houses::lived, "asks(" + b[0] + ", " + b[1] + ", " + b[2] + ")", x -> x.asks(b[0], b[1], b[2]), -1);
        for (int n : new int[] {Integer.MIN_VALUE, Integer.MAX_VALUE}) {
            for (int what = 0; what < 4; what++) {
                int w = what;
                Edge.asked(Houses::lived, "asks(" + n + ", 0, " + what + ")", x -> x.asks(n, 0, w), -1);
                Edge.asked(Houses::lived, "asks(0, " + n + ", " + what + ")", x -> x.asks(0, n, w), -1);
            }
            Edge.asked(Houses::lived, "asks(0, 0, " + n + ")", x -> x.asks(0, 0, n), -1);
        }
        for (int what = 0; what < 4; what++) {
            Edge.is("asks(12, 0, " + what + ")", Houses.lived().asks(12, 0, what), -1);
            Edge.is("asks(-1, 0, " + what + ")", Houses.lived().asks(-1, 0, what), -1);
            Edge.is("asks(0, 5, " + what + ")", Houses.lived().asks(0, 5, what), -1);
            Edge.is("asks(0, -1, " + what + ")", Houses.lived().asks(0, -1, what), -1);
        }
        Edge.asked(BracketHouse::new, "asks(0, 1, 0) of an empty row", x -> x.asks(0, 1, 0), -1);
        Edge.asked(Houses::full, "asks(0, 21, 0) of a full row", x -> x.asks(0, 21, 0), -1);
    }

    /** What a sum comes to, of a sign and a place. */
    private static int told(BracketHouse x, String sum, int sign, int place) {
        x.force(Due.law(x, "costs " + sum));
        return x.asks(sign, place, 0);
    }

    private static void words() {
        Edge.of(12, "All are asked of a SIGN and a PLACE (kind: -1 of NAMES; open: 1, if it OPENS, else 0; person: -1 of others; length: how many SIGNS the ROW has).");
        int[] kinds = {0, 1, 2, 0, 1, 2, -1, -1, -1, -1, -1, -1};
        for (int sign = 0; sign < 12; sign++) {
            Edge.is("sign of " + sign, told(new BracketHouse(), "sign", sign, 0), sign);
            Edge.is("kind + 1 of " + sign, told(new BracketHouse(), "kind + 1", sign, 0), kinds[sign] + 1);
            Edge.is("open of " + sign, told(new BracketHouse(), "open", sign, 0), sign < 3 ? 1 : 0);
            Edge.is("person + 1 of " + sign, told(new BracketHouse(), "person + 1", sign, 0), sign < 6 ? 0 : sign - 5);
        }
        // The number itself is told, not what is nearest to it.
        Edge.is("kind of a name", Due.under("bars if kind = 0 - 1").asks(6, 0, 3), 1);
        Edge.is("person of one that closes", Due.under("bars if person = 0 - 1").asks(5, 0, 3), 1);
        Edge.is("person of a name", Due.under("bars if person = 0 - 1").asks(6, 0, 3), 0);
    }

    private static void wordsAtTheirEnds() {
        Edge.of(12, "Words: 'sign' | 'kind' | 'open' | 'person' | 'place' | 'length' | 'page' | 'mood'.");
        Edge.is("length of an empty row", told(new BracketHouse(), "length", 0, 0), 0);
        Edge.is("length of a full row", told(Houses.of(20, 6), "length", 0, 0), 20);
        Edge.is("place 0", told(Houses.of(20, 6), "place", 0, 0), 0);
        Edge.is("place 20", told(Houses.of(20, 6), "place", 0, 20), 20);
        BracketHouse x = new BracketHouse();
        Edge.is("page 0", told(x, "page + 5", 0, 0), 5);
        x.terms(0, 999);
        Edge.is("page 999", told(x, "page - 990", 0, 0), 9);
        Edge.is("mood 0", told(x, "mood + 5", 0, 0), 5);
        x.terms(2, 9);
        Edge.is("mood 9", told(x, "mood + 5", 0, 0), 14);
        x.terms(1, 9);
        Edge.is("page is not DEEP", told(x, "page - 990", 0, 0), 9);
    }

    private static void holding() {
        Edge.of(12, "A CLAUSE HOLDS, if its 'if' (if it has one) is so, and neither that nor its SUM is BROKEN.");
        Edge.is("without an if", Due.under("costs 5").asks(0, 0, 0), 5);
        Edge.is("if so", Due.under("costs 5 if 1=1").asks(0, 0, 0), 5);
        Edge.is("if not so", Due.under("costs 5 if 1=2").asks(0, 0, 0), 1);
        Edge.is("if broken", Due.under("costs 5 if 1/0=1").asks(0, 0, 0), 1);
        Edge.is("not broken is broken", Due.under("costs 5 if not 1/0=1").asks(0, 0, 0), 1);
        Edge.is("sum broken", Due.under("costs 1/0").asks(0, 0, 0), 1);
        Edge.is("if so, sum broken", Due.under("costs 5; costs 1/0 if 1=1").asks(0, 0, 0), 5);
        Edge.is("if not so, sum broken", Due.under("costs 5; costs 1/0 if 1=2").asks(0, 0, 0), 5);
        Edge.is("bars if broken", Due.under("bars if 1%0=0").asks(0, 0, 3), 0);
        Edge.is("bars if not broken", Due.under("bars if not 1%0=0").asks(0, 0, 3), 0);
    }

    private static void amounts() {
        Edge.of(12, "A SIGN COSTS what the last 'costs' that HOLDS tells, 0 .. 99 (else the nearest), 1 without;");
        amount("costs", 0);
        Edge.is("the last of two", Due.under("costs 5; costs 6").asks(0, 0, 0), 6);
        Edge.is("the last that holds", Due.under("costs 5; costs 6 if 1=2").asks(0, 0, 0), 5);
        Edge.is("the last of 12", Due.under("costs 5; ".repeat(11) + "costs 6").asks(0, 0, 0), 6);
        Edge.is("the first of 12, if it alone holds", Due.under("costs 6" + "; costs 5 if 1=2".repeat(11)).asks(0, 0, 0), 6);
        Edge.is("others are not costs", Due.under("strikes 5; worth 6; bars").asks(0, 0, 0), 1);
        Edge.of(12, "it STRIKES for 0 .. 99, 1 without;");
        amount("strikes", 1);
        Edge.is("the last that holds", Due.under("strikes 4; strikes 5; strikes 6 if 1=2").asks(0, 0, 1), 5);
        Edge.is("others do not strike", Due.under("costs 5; worth 6; bars").asks(0, 0, 1), 1);
        Edge.of(12, "it is WORTH 0 .. 99, 1 without;");
        amount("worth", 2);
        Edge.is("the last that holds", Due.under("worth 4; worth 5; worth 6 if 1=2").asks(0, 0, 2), 5);
        Edge.is("others are not worth", Due.under("costs 5; strikes 6; bars").asks(0, 0, 2), 1);
        Edge.of(12, "one is in FORCE (NONE at first: no CLAUSE):");
        for (int what = 0; what < 4; what++) {
            Edge.is("asks(0, 0, " + what + ") of a law that is not in force", Houses.withLaws(1).asks(0, 0, what), what == 3 ? 0 : 1);
            Edge.is("asks(11, 20, " + what + ")", Houses.of(20, 6).asks(11, 20, what), what == 3 ? 0 : 1);
        }
    }

    private static void amount(String verb, int what) {
        int[][] due = {{0, 0}, {1, 1}, {98, 98}, {99, 99}, {100, 99}, {1000, 99}};
        for (int[] d : due) Edge.is(verb + " " + d[0], Due.under(verb + " " + d[0]).asks(0, 0, what), d[1]);
        Edge.is(verb + " 0-1", Due.under(verb + " 0-1").asks(0, 0, what), 0);
        Edge.is(verb + " the most", Due.under(verb + " 1000*1000*1000").asks(0, 0, what), 99);
        Edge.is(verb + " the least", Due.under(verb + " 0-1000*1000*1000").asks(0, 0, what), 0);
        Edge.is(verb + " more than the most", Due.under(verb + " 1000*1000*1000+1").asks(0, 0, what), 1);
        Edge.is(verb + " in a clause that does not hold", Due.under(verb + " 7 if 1=2").asks(0, 0, what), 1);
        for (int other = 0; other < 4; other++) {
            if (other != what) Edge.is(verb + " tells nothing else", Due.under(verb + " 7").asks(0, 0, other), other == 3 ? 0 : 1);
        }
    }

    private static void barred() {
        Edge.of(12, "it is BARRED from a PLACE, if 'bars' HOLDS.");
        Edge.is("bars", Due.under("bars").asks(0, 0, 3), 1);
        Edge.is("not the last one alone", Due.under("bars; bars if 1=2").asks(0, 0, 3), 1);
        Edge.is("not the first one alone", Due.under("bars if 1=2; bars").asks(0, 0, 3), 1);
        Edge.is("none that holds", Due.under("bars if 1=2; bars if 1/0=1; costs 1").asks(0, 0, 3), 0);
        for (int place = 0; place <= 3; place++) {
            BracketHouse x = Due.under("bars if place = 1 or place = length", 6, 6, 6);
            Edge.is("asks(0, " + place + ", 3)", x.asks(0, place, 3), place == 1 || place == 3 ? 1 : 0);
        }
        Edge.is("the last of 12", Due.under("bars if 1=2; ".repeat(11) + "bars").asks(0, 0, 3), 1);
    }

    /** What comes of a sum; 77, if it is broken. */
    private static void sumIs(String sum, int want) {
        Edge.is("costs 77; costs " + sum, Due.under("costs 77; costs " + sum).asks(0, 0, 0), want);
    }

    private static void broken() {
        Edge.of(12, BROKEN);
        sumIs("1000*1000*1000/[1000*1000*20]", 50);
        sumIs("[1000*1000*1000+1]/[1000*1000*20]", 77);
        sumIs("[0-1000*1000*1000]/[0-1000*1000*20]", 50);
        sumIs("[0-1000*1000*1000-1]/[0-1000*1000*20]", 77);
        sumIs("[1000*1000*1000-1+1]*0+5", 5);
        sumIs("[1000*1000*1000+1-1]*0+5", 77);
        sumIs("[[0-1000]*1000*1000]*0+5", 5);
        sumIs("[[0-1000]*1000*1000-1+1]*0+5", 77);
        sumIs("[1000*1000*1000-[0-1]]*0+5", 77);
        sumIs("1000*1000*1000-1000*1000*1000+5", 5);
        sumIs("1000*1000*1000*[0-1]*0+5", 5);
        // These would come to 0, if they wrapped around at 32 bits.
        sumIs("[256*256]*[256*256]", 77);
        sumIs("[0-256*256]*[256*256]", 77);
        sumIs("1000*1000*1000*[1000*1000*1000]", 77);
        sumIs("[0-1000*1000*1000]*[1000*1000*1000]", 77);
        sumIs("1000*1000*1000+1000*1000*1000", 77);
        sumIs("0-1000*1000*1000-1000*1000*1000", 77);
    }

    private static void divided() {
        Edge.of(12, BROKEN);
        sumIs("1/0", 77);
        sumIs("0/0", 77);
        sumIs("1%0", 77);
        sumIs("0%0", 77);
        sumIs("5/[1-1]", 77);
        sumIs("0*[1/0]", 77);
        sumIs("0/1+5", 5);
        sumIs("0%1+5", 5);
        sumIs("7/2", 3);
        sumIs("[0-7]/2+50", 47);
        sumIs("7/[0-2]+50", 47);
        sumIs("[0-7]/[0-2]+50", 53);
        sumIs("1/2+50", 50);
        sumIs("[0-1]/2+50", 50);
        sumIs("7%2+50", 51);
        sumIs("[0-7]%2+50", 49);
        sumIs("7%[0-2]+50", 51);
        sumIs("[0-7]%[0-2]+50", 49);
        sumIs("[0-6]%2+50", 50);
        sumIs("[0-1000*1000*1000]/[0-1]/[1000*1000*20]", 50);
    }

    private static void testIs(String test, int want) {
        Edge.is("bars if " + test, Due.under("bars if " + test).asks(0, 0, 3), want);
    }

    private static void brokenTests() {
        Edge.of(12, "('or', 'and' ask what stands behind only if it can still matter).");
        testIs("1=1 or 1/0=1", 1);
        testIs("1=2 or 1/0=1", 0);
        testIs("1/0=1 or 1=1", 0);
        testIs("not (1=2 and 1/0=1)", 1);
        testIs("not (1=1 and 1/0=1)", 0);
        testIs("not (1/0=1 and 1=2)", 0);
        testIs("1=2 and 1/0=1 or 1=1", 1);
        testIs("1=1 and 1/0=1 or 1=1", 0);
        testIs("1=1 or 1=1 or 1/0=1", 1);
        testIs("1=2 or 1=1 or 1/0=1", 1);
        testIs("1=2 or 1=2 or 1/0=1", 0);
        testIs("1=2 and 1/0=1 and 1/0=1 or 1=1", 1);
        testIs("1=1 or 1/0=1 and 1/0=1", 1);
        testIs("(1=1 or 1/0=1) and 1/0=1", 0);
        testIs("1=1 or (1=2 or 1/0=1)", 1);
        testIs("1=1 or not 1/0=1", 1);
        testIs("1<2 or 1/0=1", 1);
        testIs("2>1 or 1/0=1", 1);
        testIs("not 2<1 or 1/0=1", 1);
        testIs("2<1 and 1/0=1 or 1=1", 1);
        testIs("1>2 and 1/0=1 or 1=1", 1);
        testIs("not 1=1 and 1/0=1 or 1=1", 1);
        testIs("1000*1000*1000+1=0 or 1=1", 0);
        testIs("1=1 or 1000*1000*1000+1=0", 1);
    }

    private static void ordered() {
        Edge.of(12, "TEST: BOTH {'or' BOTH}. BOTH: PLAIN {'and' PLAIN}. PLAIN: 'not' PLAIN | '(' TEST ')' | SUM ('<' | '>' | '=') SUM.");
        testIs("1=1 or 1=1 and 1=2", 1);
        testIs("(1=1 or 1=1) and 1=2", 0);
        testIs("1=2 and 1=2 or 1=1", 1);
        testIs("1=2 and (1=2 or 1=1)", 0);
        testIs("not 1=2 and 1=2", 0);
        testIs("not (1=2 and 1=2)", 1);
        testIs("not 1=1 or 1=1", 1);
        testIs("not not 1=1", 1);
        testIs("not 1<2", 0);
        testIs("not 2>1", 0);
        testIs("not 2<1", 1);
        testIs("not 1>2", 1);
        testIs("1<2", 1);
        testIs("2<2", 0);
        testIs("3<2", 0);
        testIs("1>2", 0);
        testIs("2>2", 0);
        testIs("3>2", 1);
        testIs("1=2", 0);
        testIs("2=2", 1);
        testIs("0-1<0", 1);
        testIs("1+1=2", 1);
        testIs("0-1000*1000*1000<1000*1000*1000", 1);
        // As many as 50 parts make.
        testIs("1=2 or ".repeat(24) + "1=1", 1);
        testIs("1=2 or ".repeat(24) + "1=2", 0);
        testIs("1=1 and ".repeat(24) + "1=1", 1);
        testIs("1=1 and ".repeat(24) + "1=2", 0);
        Edge.of(12, "SUM: TERM {('+' | '-') TERM}. TERM: PART {('*' | '/' | '%') PART}. PART: NUMBER (to 1,000) | '[' SUM ']' | a word, as told.");
        sumIs("2+3*4", 14);
        sumIs("[2+3]*4", 20);
        sumIs("20-3-4", 13);
        sumIs("20-[3-4]", 21);
        sumIs("20-3+4", 21);
        sumIs("90/4/2", 11);
        sumIs("90/[4/2]", 45);
        sumIs("90%7*2", 12);
        sumIs("9*7%5", 3);
        sumIs("1000-990", 10);
        sumIs("[[[[[[[[7]]]]]]]]", 7);
        sumIs("1" + "+1".repeat(48), 49);
    }
}
