import java.util.function.LongPredicate;

/** Edges of promises 32 to 35: readers by draws, images, back. */
final class ReaderEdges {
    private static final int MODULUS = 1000003;
    private static final String PAGES = "Each PAGE (at 999 it ends)";

    private ReaderEdges() { }

    static void all() {
        taken();
        refused();
        draws();
        drawsThatWrap();
        pages();
        puts();
        putsThatCantBe();
        cuts();
        wholes();
        drawn();
        drawnWithout();
        images();
        imagesWithout();
        imageKeeps();
        imageLeaves();
        back();
        backWithout();
    }

    private static long next(long s) {
        return (s * 1103 + 12345) % MODULUS;
    }

    /** The lowest seed that is as wanted. */
    private static int seed(LongPredicate wanted) {
        for (int seed = 0; seed <= 1000000; seed++) {
            if (wanted.test(seed)) return seed;
        }
        Edge.is("there is such a seed", 0, 1);
        return 0;
    }

    /** The lowest seed by which the first draw of 3 is as told. */
    static int seedOf(int first) {
        return seed(s -> next(s) % 3 == first);
    }

    /** The lowest seed by which the first page puts a sign ahead of a place of so many. */
    private static int seedOfPut(int sign, int place, int length) {
        return seed(s -> next(s) % 3 == 0 && next(next(s)) % 6 == sign && next(next(next(s))) % (length + 1) == place);
    }

    private static int seedOfCut(int place, int length) {
        return seed(s -> next(s) % 3 == 1 && next(next(s)) % length == place);
    }

    /** A house in which no page changes anything, so that readers() answers how many pages there were. */
    private static BracketHouse still(int page) {
        BracketHouse x = Due.under("bars");
        x.terms(0, page);
        return x;
    }

    private static void taken() {
        Edge.of(32, "READERS with a SEED, n PAGES 1 .. 60, on paper: s is the SEED (0 .. 1,000,000);");
        for (int seed : new int[] {0, 1, 999999, 1000000}) {
            for (int n : new int[] {1, 2, 59, 60}) Edge.granted(() -> still(0), "readers(" + seed + ", " + n + ")", x -> x.readers(seed, n), n);
        }
        // On paper: nothing but the latest readers changes.
        for (int seed : new int[] {0, 5, 1000000}) {
            Edge.same(Houses::lived, "readers(" + seed + ", 60)", x -> x.readers(seed, 60), Edge.NOTHING_AT_ALL, Edge.DRAWN);
            Edge.same(Houses::full, "readers(" + seed + ", 60)", x -> x.readers(seed, 60), Edge.NOTHING_AT_ALL, Edge.DRAWN);
            Edge.same(Houses::bare, "readers(" + seed + ", 60)", x -> x.readers(seed, 60), Edge.NOTHING_AT_ALL, Edge.DRAWN);
        }
    }

    private static void refused() {
        Edge.of(32, "-1.");
        int[][] beyond = {{-1, 1}, {1000001, 1}, {0, 0}, {0, 61}, {0, -1}, {-1, 0}, {1000001, 61}, {Integer.MIN_VALUE, 1}, {Integer.MAX_VALUE, 1},
            {0, Integer.MIN_VALUE}, {0, Integer.MAX_VALUE}};
        for (int[] b : beyond) Edge.refused(Houses::lived, "readers(" + b[0] + ", " + b[1] + ")", x -> x.readers(b[0], b[1]), -1);
        Edge.refused(BracketHouse::new, "readers(-1, 1) ahead of any", x -> x.readers(-1, 1), -1);
        Edge.refused(BracketHouse::new, "readers(0, 0) ahead of any", x -> x.readers(0, 0), -1);
    }

    /** A model with a row. */
    private static Model model(int... signs) {
        Model m = new Model();
        for (int sign : signs) m.tape.add(sign);
        m.row();
        return m;
    }

    private static void agree(int seed, int n, int... signs) {
        Model m = model(signs);
        BracketHouse x = signs.length == 0 ? new BracketHouse() : Due.house(signs);
        Edge.is("readers(" + seed + ", " + n + ") of " + signs.length, x.readers(seed, n), m.readers(seed, n));
        for (int what = 0; what < 23; what++) Edge.is("drawn(" + what + ") of " + seed + ", " + n, x.drawn(what), m.drawn(what));
    }

    private static void draws() {
        Edge.of(32, "a DRAW of m: s becomes (s times 1103 and 12345) modulo 1,000,003, it is s modulo m.");
        // 12345: a put; 628841: sign 5; 621889: place 1 of 0 .. 1.
        BracketHouse x = Due.house(6);
        Edge.is("readers(0, 1)", x.readers(0, 1), 0);
        Edge.is("drawn(2)", x.drawn(2), 6);
        Edge.is("drawn(3)", x.drawn(3), 5);
        for (int seed : new int[] {0, 1, 2, 12345, 500000, 999999, 1000000}) {
            agree(seed, 60);
            agree(seed, 60, Houses.times(20, 0));
            agree(seed, 1, 0, 6, 3);
        }
    }

    private static void drawsThatWrap() {
        Edge.of(32, "modulo 1,000,003,");
        // Draws become 0 behind the greatest number, and the greatest number itself.
        int toZero = seed(s -> next(s) == 0);
        int toGreatest = seed(s -> next(s) == MODULUS - 1);
        int toZeroNext = seed(s -> next(next(s)) == 0);
        int toGreatestNext = seed(s -> next(next(s)) == MODULUS - 1);
        for (int seed : new int[] {toZero, toGreatest, toZeroNext, toGreatestNext}) {
            agree(seed, 60);
            agree(seed, 1, 0, 6, 3, 7);
            agree(seed, 2, 0, 6, 3, 7);
        }
        BracketHouse x = new BracketHouse();
        Edge.is("readers() by a draw of 0", x.readers(toZero, 1), 0);
        Edge.is("the sign drawn behind 0", x.drawn(2), 12345 % 6);
    }

    private static void pages() {
        Edge.of(32, PAGES);
        int[][] due = {{0, 60, 60}, {938, 60, 60}, {939, 60, 60}, {940, 60, 59}, {997, 60, 2}, {998, 60, 1}, {998, 1, 1}, {997, 2, 2}, {999, 1, 0}, {999, 60, 0}};
        for (int[] d : due) Edge.granted(() -> still(d[0]), "readers(0, " + d[1] + ") at page " + d[0], x -> x.readers(0, d[1]), d[2]);
        BracketHouse x = Due.house(6, 0);
        x.terms(0, 999);
        x.readers(0, 60);
        Edge.is("drawn(0), when no page was read", x.drawn(0), 2);
        Edge.is("drawn(1), when no page was read", x.drawn(1), 1);
        Edge.is("drawn(2), when no page was read", x.drawn(2), 6);
        Edge.of(32, "then the PAGE passes.");
        // The law is asked with the page on paper: from page 1 on nothing can be put.
        x = Due.under("bars if page > 0");
        x.readers(0, 60);
        Edge.is("drawn(0)", x.drawn(0) <= 1 ? 1 : 0, 1);
        int seed = seed(s -> next(s) % 3 == 2 && next(next(s)) % 3 == 0);
        x = Due.under("bars if page = 0");
        x.readers(seed, 1);
        Edge.is("drawn(0) of the first page", x.drawn(0), 0);
        x.readers(seed, 2);
        Edge.is("drawn(0) of the second page", x.drawn(0), 1);
        x = Due.under("bars if page = 1");
        x.readers(seed, 2);
        Edge.is("drawn(0), barred on the second page", x.drawn(0), 0);
    }

    private static void puts() {
        Edge.of(32, "a DRAW of 3: at 0 DRAWS of 6, of one more than the length: that SIGN is PUT there, if it can be;");
        for (int sign = 0; sign < 6; sign++) {
            for (int place : new int[] {0, 2}) {
                BracketHouse x = Due.house(6, 7);
                x.readers(seedOfPut(sign, place, 2), 1);
                Edge.is("drawn(0)", x.drawn(0), 3);
                Edge.is("drawn() of the sign that was put", x.drawn(2 + place), sign);
                Edge.is("drawn() of what was there", x.drawn(place == 0 ? 3 : 2), 6);
            }
            BracketHouse x = new BracketHouse();
            x.readers(seedOfPut(sign, 0, 0), 1);
            Edge.is("drawn(2) of an empty row", x.drawn(2), sign);
        }
        BracketHouse x = Houses.of(19, 6);
        x.readers(seedOfPut(3, 19, 19), 1);
        Edge.is("drawn(0) of 19", x.drawn(0), 20);
        Edge.is("drawn(21) of 19", x.drawn(21), 3);
    }

    private static void putsThatCantBe() {
        Edge.of(32, "if it can be;");
        BracketHouse x = Houses.of(20, 6);
        Edge.is("readers() of a full row", x.readers(seedOfPut(0, 20, 20), 1), 1);
        Edge.is("drawn(0) of a full row", x.drawn(0), 20);
        Edge.is("drawn(21) of a full row", x.drawn(21), 6);
        int seed = seedOfPut(3, 1, 1);
        x = Due.under("bars if sign = 3 and place = 1", 6);
        x.readers(seed, 1);
        Edge.is("drawn(0), barred", x.drawn(0), 1);
        x = Due.under("bars if sign = 3 and place = 0", 6);
        x.readers(seed, 1);
        Edge.is("drawn(0), barred from another place", x.drawn(0), 2);
        x = Due.under("bars if length = 1", 6);
        x.readers(seed, 1);
        Edge.is("drawn(0), barred by the length", x.drawn(0), 1);
        for (int barring = 0; barring < 6; barring++) {
            x = Due.house(6);
            for (int law = 0; law < 6; law++) Due.law(x, law == barring ? "bars" : "costs 1");
            for (int law = -1; law < 6; law++) {
                x.force(law);
                x.readers(seed, 1);
                Edge.is("drawn(0) by law " + law + ", when law " + barring + " bars all", x.drawn(0), law == barring ? 1 : 2);
            }
        }
        // What can't be put has been drawn all the same: the next page goes on behind it.
        int twice = seed(s -> next(s) % 3 == 0 && next(next(next(next(s)))) % 3 == 1 && next(next(next(s))) % 3 != 1 && next(next(s)) % 3 != 1);
        x = Due.under("bars", 6);
        Edge.is("readers() of one that can't be put, then one that is cut", x.readers(twice, 2), 2);
        Edge.is("drawn(0)", x.drawn(0), 0);
        for (int what = 5; what <= 9; what++) Edge.is("count(" + what + "): nothing is refused", x.count(what), 0);
    }

    private static void cuts() {
        Edge.of(32, "at 1 (if there are SIGNS) a DRAW of the length: that one is CUT;");
        for (int place = 0; place < 3; place++) {
            BracketHouse x = Due.house(6, 7, 8);
            x.readers(seedOfCut(place, 3), 1);
            Edge.is("drawn(0)", x.drawn(0), 2);
            Edge.is("drawn(2) without place " + place, x.drawn(2), place == 0 ? 7 : 6);
            Edge.is("drawn(3) without place " + place, x.drawn(3), place == 2 ? 7 : 8);
        }
        BracketHouse x = Houses.of(20, 6);
        x.turn(19, 7);
        x.readers(seedOfCut(19, 20), 1);
        Edge.is("drawn(0) of 20", x.drawn(0), 19);
        Edge.is("drawn(20) of 20", x.drawn(20), 6);
        x = Due.under("bars", 0);
        Edge.is("readers() that cut the only one", x.readers(seedOf(1), 1), 1);
        Edge.is("drawn(0) of one", x.drawn(0), 0);
        // Without signs nothing more is drawn: the next page goes on at once.
        int seed = seed(s -> next(s) % 3 == 1 && next(next(s)) % 3 == 0 && next(next(next(s))) % 3 != 0);
        x = new BracketHouse();
        x.readers(seed, 2);
        Edge.is("drawn(0) of an empty row", x.drawn(0), 1);
        Edge.is("drawn(2) of an empty row", x.drawn(2), next(next(next(seed))) % 6);
        Edge.of(32, "at 2 nothing;");
        x = Due.house(6, 0);
        x.readers(seedOf(2), 1);
        Edge.is("drawn(0)", x.drawn(0), 2);
        Edge.is("drawn(2)", x.drawn(2), 6);
        Edge.is("drawn(3)", x.drawn(3), 0);
        seed = seed(s -> next(s) % 3 == 2 && next(next(s)) % 3 == 0);
        x.readers(seed, 2);
        Edge.is("drawn(0): nothing was drawn between", x.drawn(0), 3);
    }

    private static void wholes() {
        Edge.of(32, "READERS, kept as the latest: how often the ROW was WHOLE at the end of a PAGE.");
        Edge.is("a row that stays whole", still(0).readers(7, 60), 60);
        int nothing = seedOf(2);
        Edge.is("whole at the end", Due.house(0, 3).readers(nothing, 1), 1);
        Edge.is("not whole at the end", Due.house(0).readers(nothing, 1), 0);
        Edge.is("without signs", new BracketHouse().readers(nothing, 1), 1);
        Edge.is("whole by a cut", Due.house(0).readers(seedOf(1), 1), 1);
        Edge.is("whole no more by a cut", Due.house(0, 3).readers(seedOfCut(0, 2), 1), 0);
        Edge.is("whole by a put", Due.house(0).readers(seedOfPut(3, 1, 1), 1), 1);
        Edge.is("not whole by a put", new BracketHouse().readers(seedOfPut(3, 0, 0), 1), 0);
    }

    private static void drawn() {
        Edge.of(33, "Behind the latest READERS the length (what 0), how many are LOOSE (1), the SIGN of PLACE p (2 and p).");
        BracketHouse x = Houses.of(20, 0);
        x.turn(19, 11);
        x.readers(seedOf(2), 1);
        Edge.is("drawn(0)", x.drawn(0), 20);
        Edge.is("drawn(1)", x.drawn(1), 19);
        Edge.is("drawn(2)", x.drawn(2), 0);
        Edge.is("drawn(21)", x.drawn(21), 11);
        Edge.is("drawn(22)", x.drawn(22), -1);
        x = new BracketHouse();
        x.readers(seedOf(2), 1);
        Edge.is("drawn(0) of an empty row", x.drawn(0), 0);
        Edge.is("drawn(1) of an empty row", x.drawn(1), 0);
        Edge.is("drawn(2) of an empty row", x.drawn(2), -1);
        Due.row(x, 0, 6, 3);
        x.readers(seedOf(2), 1);
        Edge.is("drawn(1) of a pair", x.drawn(1), 0);
        Edge.is("drawn(0) of the latest", x.drawn(0), 3);
        x.readers(-1, 1);
        x.cut(0);
        x.image(0);
        x.back(0);
        Edge.is("drawn(0) behind others", x.drawn(0), 3);
        Edge.is("drawn(2) behind others", x.drawn(2), 0);
        Edge.is("drawn(1) behind others", x.drawn(1), 0);
    }

    private static void drawnWithout() {
        Edge.of(33, "NONE.");
        for (int what : new int[] {-1, 0, 1, 2, 21, 22, Integer.MIN_VALUE, Integer.MAX_VALUE}) {
            Edge.asked(BracketHouse::new, "drawn(" + what + ") ahead of any", x -> x.drawn(what), -1);
        }
        for (int what : new int[] {-1, 22, 23, Integer.MIN_VALUE, Integer.MAX_VALUE}) {
            Edge.asked(ReaderEdges::fullReaders, "drawn(" + what + ") of a full row", x -> x.drawn(what), -1);
        }
        Edge.asked(ReaderEdges::fullReaders, "drawn(21) of a full row", x -> x.drawn(21), 6);
        BracketHouse x = new BracketHouse();
        x.readers(0, 0);
        Edge.is("drawn(0) behind refused ones alone", x.drawn(0), -1);
    }

    private static BracketHouse fullReaders() {
        BracketHouse x = Houses.of(20, 6);
        x.readers(seedOf(2), 1);
        return x;
    }

    private static BracketHouse imaged(BracketHouse x, int k) {
        x.image(k);
        return x;
    }

    private static void images() {
        Edge.of(34, "IMAGE k is kept: 0;");
        for (int k = 0; k < 2; k++) {
            int image = k;
            Edge.granted(Houses::lived, "image(" + k + ")", x -> x.image(image), 0);
            Edge.granted(BracketHouse::new, "image(" + k + ") of a new object", x -> x.image(image), 0);
            // Nothing else changes by it.
            Edge.same(() -> imaged(Houses.lived(), image), "image(" + k + ") once more", x -> x.image(image), Edge.NOTHING_AT_ALL);
        }
        BracketHouse x = Due.house(6);
        x.image(0);
        x.put(7, 0);
        x.image(1);
        x.put(8, 0);
        x.image(0);
        x.put(9, 0);
        x.back(1);
        Edge.rowIs(x, 7, 6);
        x.back(0);
        Edge.rowIs(x, 8, 7, 6);
    }

    private static void imagesWithout() {
        Edge.of(34, "-1.");
        for (int k : new int[] {-1, 2, Integer.MIN_VALUE, Integer.MAX_VALUE}) Edge.refused(Houses::lived, "image(" + k + ")", x -> x.image(k), -1);
        Edge.refused(BracketHouse::new, "image(2) of a new object", x -> x.image(2), -1);
    }

    private static long manyChanges(BracketHouse x) {
        x.put(9, 0);
        x.cut(1);
        x.turn(0, 10);
        x.pass();
        x.terms(0, 500);
        x.terms(1, 1);
        x.terms(2, 1);
        x.force(-1);
        Due.law(TextEdges.with(x, ""), "costs 44");
        x.force(x.count(2) - 1);
        Due.row(x, 0, 0, 0);
        x.pass();
        return 0;
    }

    private static void imageKeeps() {
        Edge.of(34, "IMAGES 0, 1 keep all but the TAPE, FAULT, BLOTS, where ORDERS stopped, what can be undone (nothing, behind back()), the latest READERS;");
        String[] free = {"fault()", "blots()"};
        for (int k = 0; k < 2; k++) {
            int image = k;
            Edge.same(() -> imaged(Houses.lived(), image), "changes, then back(" + k + ")", x -> manyChanges(x) + x.end(0) + x.back(image), x -> x.end(0) + x.back(image), free);
            Edge.same(() -> imaged(Houses.full(), image), "changes, then back(" + k + ")", x -> manyChanges(x) + x.end(0) + x.back(image), x -> x.end(0) + x.back(image), free);
            Edge.same(() -> imaged(new BracketHouse(), image), "changes, then back(" + k + ")", x -> manyChanges(x) + x.back(image), x -> x.back(image), free);
        }
        BracketHouse x = Houses.withLaws(6);
        x.force(5);
        x.image(1);
        x.force(0);
        x.back(1);
        Edge.is("count(2) of six laws", x.count(2), 6);
        Edge.is("count(10)", x.count(10), 5);
        Edge.is("asks(0, 0, 0)", x.asks(0, 0, 0), 15);
    }

    private static void imageLeaves() {
        Edge.of(35, "IMAGES 0, 1 keep all but the TAPE, FAULT, BLOTS, where ORDERS stopped, what can be undone (nothing, behind back()), the latest READERS;");
        BracketHouse x = imaged(new BracketHouse(), 0);
        Due.orders(x, "pass; cut 0");
        Due.row(x, 6, 99, 99);
        x.readers(seedOf(2), 1);
        Due.law(x, "bars x");
        x.pass();
        Due.feed(x, "bars");
        Edge.is("back(0)", x.back(0), 0);
        Edge.is("count(4)", x.count(4), 4);
        Edge.is("fault()", x.fault(), 5);
        Edge.is("blots()", x.blots(), 2);
        Edge.is("stopped()", x.stopped(), 1);
        Edge.is("drawn(0)", x.drawn(0), 1);
        Edge.is("drawn(2)", x.drawn(2), 6);
        Edge.is("count(3)", x.count(3), 0);
        Edge.is("law() of what is on the tape", x.law(), 0);
        x.force(0);
        Edge.is("asks(0, 0, 3)", x.asks(0, 0, 3), 1);
        x = Due.house(6);
        x.pass();
        x.image(0);
        x.back(0);
        Edge.is("count(3) behind back() to what was just kept", x.count(3), 0);
    }

    private static void back() {
        Edge.of(35, "BACK to IMAGE k: 0.");
        for (int k = 0; k < 2; k++) {
            int image = k;
            Edge.granted(() -> imaged(Houses.lived(), image), "back(" + k + ")", x -> x.back(image), 0);
        }
        BracketHouse x = Edge.granted(Houses::lived, "back(0)", y -> y.back(0), 0);
        Edge.rowIs(x, 0, 6, 3, 1);
        Edge.is("count(11)", x.count(11), 7);
        Edge.is("count(3)", x.count(3), 0);
        Edge.of(35, "BACK to one all that it keeps is as it was then (IMAGES stay).");
        Edge.same(() -> imaged(Houses.lived(), 1), "back(0) and back(1)", y -> y.back(0) + y.back(1), y -> y.back(1));
        Edge.same(Houses::lived, "back(0) twice", y -> y.back(0) + y.back(0), y -> y.back(0));
        x = imaged(new BracketHouse(), 0);
        Due.row(x, 6);
        x.back(0);
        Due.row(x, 7, 8);
        x.back(0);
        Edge.rowIs(x);
        // A law that came behind the image is no more; one that comes then has its number.
        x = Houses.withLaws(1);
        x.image(0);
        Due.law(x, "costs 70");
        x.force(1);
        x.image(1);
        x.back(0);
        Edge.is("count(2)", x.count(2), 1);
        Edge.is("count(10)", x.count(10), -1);
        Edge.is("law()", Due.law(x, "costs 80"), 1);
        x.force(1);
        Edge.is("asks(0, 0, 0) of the new one", x.asks(0, 0, 0), 80);
        x.back(1);
        Edge.is("asks(0, 0, 0) of the one that was kept", x.asks(0, 0, 0), 70);
        eachLawIsKept();
    }

    /** Of six laws in each image all six, when others have had their numbers between. */
    private static void eachLawIsKept() {
        BracketHouse x = new BracketHouse();
        x.image(0);
        for (int i = 0; i < 6; i++) Due.law(x, "costs " + (30 + i));
        x.image(1);
        x.back(0);
        for (int i = 0; i < 6; i++) Due.law(x, "costs " + (40 + i));
        x.image(0);
        for (int k : new int[] {1, 0, 1}) {
            x.back(k);
            for (int i = 0; i < 6; i++) {
                Edge.is("force(" + i + ") behind back(" + k + ")", x.force(i), i - 1);
                Edge.is("what law " + i + " of image " + k + " costs", x.asks(0, 0, 0), (k == 1 ? 30 : 40) + i);
            }
        }
    }

    private static void backWithout() {
        Edge.of(35, "-1;");
        for (int k : new int[] {-1, 2, Integer.MIN_VALUE, Integer.MAX_VALUE}) {
            Edge.refused(Houses::lived, "back(" + k + ")", x -> x.back(k), -1);
            Edge.refused(BracketHouse::new, "back(" + k + ") when none was kept", x -> x.back(k), -1);
        }
        Edge.of(35, "-2 it was not kept.");
        Edge.refused(Houses::lived, "back(1)", x -> x.back(1), -2);
        Edge.refused(BracketHouse::new, "back(0)", x -> x.back(0), -2);
        Edge.refused(BracketHouse::new, "back(1)", x -> x.back(1), -2);
        Edge.refused(() -> imaged(new BracketHouse(), 1), "back(0), when 1 was kept", x -> x.back(0), -2);
        BracketHouse x = new BracketHouse();
        x.image(-1);
        x.image(2);
        Edge.is("back(0) behind refused images", x.back(0), -2);
        Edge.is("back(1) behind refused images", x.back(1), -2);
    }
}
