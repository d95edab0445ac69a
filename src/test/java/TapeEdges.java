/** Edges of promises 1 to 6: a new object, terms, the tape, signs from the tape. */
final class TapeEdges {
    private static final String TERMS = "TERMS: 0 PAGE 0 .. 999 (0 at first), 1 DEEP 1 .. 9 (4), 2 MOOD 0 .. 9 (0).";

    private TapeEdges() { }

    static void all() {
        newObject();
        lastCall();
        constants();
        termsTaken();
        termsRefused();
        termsWithout();
        fed();
        fedTooMuch();
        ended();
        endedBeyond();
        signsCome();
        signsWithoutRoom();
        signsOfNothing();
        blots();
    }

    private static void newObject() {
        Edge.of(1, "An empty row.");
        Edge.asked(BracketHouse::new, "count(0)", x -> x.count(0), 0);
        Edge.asked(BracketHouse::new, "at(0, 0)", x -> x.at(0, 0), -1);
        Edge.asked(BracketHouse::new, "said()", x -> x.said(), 0);
        BracketHouse other = Due.house(0, 6);
        BracketHouse x = new BracketHouse();
        other.put(7, 0);
        Edge.is("count(0) of one made behind another", x.count(0), 0);
        Edge.is("count(3) of one made behind another", x.count(3), 0);
        Edge.of(1, TERMS);
        Edge.is("PAGE at first", new BracketHouse().count(11), 0);
        Edge.is("DEEP at first", new BracketHouse().count(12), 4);
        Edge.is("MOOD at first", new BracketHouse().count(13), 0);
        Edge.of(1, "one is in FORCE (NONE at first: no CLAUSE)");
        Edge.is("FORCE at first", new BracketHouse().count(10), -1);
        for (int what = 0; what < 4; what++) Edge.is("asks(0, 0, " + what + ") at first", new BracketHouse().asks(0, 0, what), what == 3 ? 0 : 1);
    }

    private static void lastCall() {
        Edge.of(1, "An object is used for at most 512 calls after it has been made; what later calls answer is free.");
        BracketHouse x = new BracketHouse();
        for (int call = 1; call < 510; call++) Edge.is("call " + call, call % 2 == 1 ? x.put(6, 0) : x.cut(0), 1);
        Edge.is("call 510, a refused one", x.put(12, 0), -1);
        Edge.is("call 511", x.at(0, 0), 6);
        Edge.is("call 512", x.count(5), 1);
        lastOf("refused terms()", (y, call) -> y.terms(-1, 0), y -> y.count(5), 511);
        lastOf("pass()", (y, call) -> y.pass(), y -> y.count(11), 511);
        lastOf("put()", (y, call) -> y.put(call % 12, 0), y -> y.count(8), 491);
        lastOf("feed() and law()", (y, call) -> feedOr(y, call, "costs 5 + place", y::law), y -> y.count(8), 249);
        lastOf("laws and back()", TapeEdges::lawOrBack, BracketHouse::law, 0);
        lastOf("feed() and orders()", (y, call) -> feedOr(y, call, "put 6 at 0; cut 0", y::orders), y -> y.count(3), 16);
        lastOf("feed() and row()", (y, call) -> feedOr(y, call, "\6\7\10", y::row), BracketHouse::row, 0);
        lastOf("readers()", (y, call) -> y.readers(call, 60), BracketHouse::status, 0);
        lastOf("image() and back()", (y, call) -> call % 2 == 1 ? y.image(call / 2 % 2) : y.back(call / 2 % 2), y -> y.back(1), 0);
    }

    private interface Nth {
        long on(BracketHouse x, int call);
    }

    /** What call 512 answers behind 511 of one kind. */
    private static void lastOf(String name, Nth each, Edge.Call last, long want) {
        BracketHouse x = new BracketHouse();
        for (int call = 1; call < 512; call++) each.on(x, call);
        Edge.is("call 512 behind 511 of " + name, last.on(x), want);
    }

    private interface Taken {
        int take();
    }

    private static long feedOr(BracketHouse x, int call, String text, Taken taken) {
        return call % 2 == 1 ? feedText(x, text) : taken.take();
    }

    /** One call: twenty bytes, blanks behind the text. */
    private static long feedText(BracketHouse x, String text) {
        int[] n = Due.packed((text + " ".repeat(20 - text.length())).getBytes(java.nio.charset.StandardCharsets.ISO_8859_1), 0);
        return x.feed(n[0], n[1], n[2], n[3], n[4]);
    }

    /** An image without laws, then a text, a law, back by turns; the last text is taken by the last call. */
    private static long lawOrBack(BracketHouse x, int call) {
        if (call == 1) return x.image(0);
        switch (call % 3) {
            case 0: return x.back(0);
            case 1: return feedText(x, "bars if place = 3");
            default: return call == 2 ? x.end(0) : x.law();
        }
    }

    private static void constants() {
        Edge.of(1, "NONE = -1: There is none.");
        Edge.is("NONE", BracketHouse.NONE, -1);
        Edge.of(1, "NOTHING = -100000: What is not there, where it could be below 0.");
        Edge.is("NOTHING", BracketHouse.NOTHING, -100000);
        Edge.of(1, "The constants:");
        Edge.is("they differ", BracketHouse.NONE == BracketHouse.NOTHING ? 1 : 0, 0);
    }

    private static void termsTaken() {
        Edge.of(2, "A TERM: what it was.");
        int[] least = {0, 1, 0};
        int[] greatest = {999, 9, 9};
        int[] was = {8, 5, 6};
        for (int what = 0; what < 3; what++) {
            int w = what;
            for (int value : new int[] {least[what], greatest[what]}) {
                BracketHouse x = Edge.granted(Houses::lived, "terms(" + what + ", " + value + ")", h -> h.terms(w, value), was[what]);
                for (int i = 0; i < 3; i++) Edge.is("then count(" + (11 + i) + ")", x.count(11 + i), i == what ? value : was[i]);
                Edge.rowIs(x, Houses.LIVED_ROW);
                Edge.is("then terms() once more", x.terms(w, was[w]), value);
            }
        }
    }

    private static void termsRefused() {
        Edge.of(2, TERMS);
        int[][] beyond = {{0, -1}, {0, 1000}, {1, 0}, {1, 10}, {2, -1}, {2, 10}, {0, Integer.MIN_VALUE}, {0, Integer.MAX_VALUE}, {1, Integer.MIN_VALUE},
            {1, Integer.MAX_VALUE}, {2, Integer.MIN_VALUE}, {2, Integer.MAX_VALUE}};
        for (int[] b : beyond) Edge.refused(Houses::lived, "terms(" + b[0] + ", " + b[1] + ")", x -> x.terms(b[0], b[1]), -1);
    }

    private static void termsWithout() {
        Edge.of(2, "-1.");
        for (int what : new int[] {-1, 3, Integer.MIN_VALUE, Integer.MAX_VALUE}) {
            Edge.refused(Houses::lived, "terms(" + what + ", 1)", x -> x.terms(what, 1), -1);
            Edge.refused(Houses::lived, "terms(" + what + ", -1)", x -> x.terms(what, -1), -1);
        }
    }

    private static void fed() {
        Edge.of(3, "Twenty bytes come behind the TAPE, four of each number, the highest first: how many it has.");
        BracketHouse x = new BracketHouse();
        Edge.is("feed to an empty tape", x.feed(0x00010203, 0x04050607, 0x08090A0B, 0x0A090807, 0x06050403), 20);
        Edge.is("row()", x.row(), 20);
        Edge.rowIs(x, 0, 1, 2, 3, 4, 5, 6, 7, 8, 9, 10, 11, 10, 9, 8, 7, 6, 5, 4, 3);
        x = new BracketHouse();
        Edge.is("numbers below 0", x.feed(0x80000001, 0xFF020304, -1, Integer.MIN_VALUE, Integer.MAX_VALUE), 20);
        Edge.is("row() of 0 0 1, 2 3 4, 0 0 0", x.row(), 9);
        Edge.is("blots() of 128, 255 and 127", x.blots(), 11);
        Edge.rowIs(x, 0, 0, 1, 2, 3, 4, 0, 0, 0);
        x = new BracketHouse();
        x.feed(0x06000000, 0, 0, 0, 0);
        x.end(1);
        Edge.is("feed behind one byte", x.feed(0x07080000, 0, 0, 0, 0x09), 21);
        x.row();
        Edge.is("the first byte", x.at(0, 0), 6);
        Edge.is("the second byte", x.at(1, 0), 7);
        Edge.is("the third byte", x.at(2, 0), 8);
        BracketHouse y = new BracketHouse();
        for (int i = 1; i <= 20; i++) Edge.is("feed " + i, y.feed(0, 0, 0, 0, 0), 20 * i);
        Edge.is("a full tape", y.count(4), 400);
        x = Houses.lived();
        Edge.is("status() ahead of feed()", x.status(), -2);
        x.feed(0, 0, 0, 0, 0);
        Edge.is("feed() leaves status()", x.status(), -2);
    }

    private static BracketHouse tapeOf(int n) {
        BracketHouse x = Houses.lived();
        x.end(0);
        byte[] bytes = new byte[n];
        for (int i = 0; i < n; i++) bytes[i] = (byte) (i < 7 ? "costs 9".charAt(i) : ' ');
        Due.feed(x, bytes);
        return x;
    }

    private static void fedTooMuch() {
        Edge.of(3, "NONE, if there would be more than 400.");
        Edge.is("feed to 400", tapeOf(380).feed(0, 0, 0, 0, 0), 400);
        Edge.asked(() -> tapeOf(381), "feed behind 381", x -> x.feed(1, 2, 3, 4, 5), -1);
        Edge.asked(() -> tapeOf(399), "feed behind 399", x -> x.feed(1, 2, 3, 4, 5), -1);
        Edge.asked(() -> tapeOf(400), "feed behind 400", x -> x.feed(1, 2, 3, 4, 5), -1);
        Edge.of(3, "TEXTS are on a TAPE of at most 400 bytes.");
        BracketHouse x = tapeOf(400);
        Edge.is("the 21st feed", x.feed(0, 0, 0, 0, 0), -1);
        Edge.is("count(4)", x.count(4), 400);
        Edge.is("law() of all 400", x.law(), 2);
    }

    private static void ended() {
        Edge.of(4, "The TAPE has its first n bytes alone: n.");
        BracketHouse x = new BracketHouse();
        Edge.is("end(0) of an empty tape", x.end(0), 0);
        x.feed(0x06070809, 0x0A0B0001, 0, 0, 0);
        Edge.is("end(20), all", x.end(20), 20);
        Edge.is("end(19), all but one", x.end(19), 19);
        Edge.is("end(3)", x.end(3), 3);
        Edge.is("count(4)", x.count(4), 3);
        Edge.is("end(3) once more", x.end(3), 3);
        Edge.is("feed behind it", x.feed(0x03030303, 0x03030303, 0x03030303, 0x03030303, 0x03030303), 23);
        Edge.is("end(4)", x.end(4), 4);
        x.row();
        Edge.rowIs(x, 6, 7, 8, 3);
        Edge.is("end(400) of a full tape", tapeOf(400).end(400), 400);
        Edge.is("end(0) of a full tape", tapeOf(400).end(0), 0);
        Edge.asked(Houses::lived, "end(7), which all are", y -> y.end(7), 7);
    }

    private static void endedBeyond() {
        Edge.of(4, "NONE, if it has not so many, or n is below 0.");
        for (int n : new int[] {8, 400, 401, Integer.MAX_VALUE, -1, Integer.MIN_VALUE}) Edge.asked(Houses::lived, "end(" + n + ") of 7", x -> x.end(n), -1);
        Edge.asked(BracketHouse::new, "end(1) of an empty tape", x -> x.end(1), -1);
        Edge.asked(BracketHouse::new, "end(-1) of an empty tape", x -> x.end(-1), -1);
        Edge.asked(() -> tapeOf(400), "end(401) of a full tape", x -> x.end(401), -1);
        BracketHouse x = tapeOf(20);
        x.end(19);
        Edge.is("end(20) of what was 20", x.end(20), -1);
    }

    private static BracketHouse fedRow(BracketHouse x, int... signs) {
        x.end(0);
        byte[] bytes = new byte[signs.length];
        for (int i = 0; i < signs.length; i++) bytes[i] = (byte) signs[i];
        Due.feed(x, bytes);
        return x;
    }

    private static void signsCome() {
        Edge.of(5, "The TAPE's bytes, which is empty then, one by one: SIGNS that come behind the last one (nothing is BARRED);");
        BracketHouse x = Edge.granted(() -> fedRow(Houses.lived(), 0, 11, 2), "row() of 0 11 2", BracketHouse::row, 3);
        Edge.rowIs(x, 8, 6, 3, 1, 0, 11, 2);
        Edge.is("count(4)", x.count(4), 0);
        x = Edge.granted(() -> fedRow(Due.under("bars"), 0, 5, 6), "row() when all are barred", BracketHouse::row, 3);
        Edge.rowIs(x, 0, 5, 6);
        Edge.of(5, "one that can't be,");
        x = Edge.granted(() -> fedRow(Houses.lived(), 12, 11, 255, 0, 128, 127, 32, 13), "row() of two signs among blots", BracketHouse::row, 2);
        Edge.rowIs(x, 8, 6, 3, 1, 11, 0);
        Edge.is("blots()", x.blots(), 6);
        Edge.of(5, "How many came.");
        Edge.granted(() -> fedRow(Houses.lived(), 12), "row() of a blot alone", BracketHouse::row, 0);
        Edge.granted(() -> fedRow(new BracketHouse(), Houses.times(20, 11)), "row() of 20", BracketHouse::row, 20);
        Edge.of(5, "0 .. 2 OPEN KINDS 0 .. 2, 3 .. 5 CLOSE KINDS 0 .. 2, 6 .. 11 are NAMES of PEOPLE 0 .. 5.");
        for (int sign = 0; sign < 256; sign++) {
            x = fedRow(new BracketHouse(), sign);
            Edge.is("row() of " + sign, x.row(), sign < 12 ? 1 : 0);
            Edge.is("at(0, 0) of " + sign, x.at(0, 0), sign < 12 ? sign : -1);
        }
    }

    private static void signsWithoutRoom() {
        Edge.of(5, "one for which there is no room is a BLOT: none.");
        BracketHouse x = Edge.granted(() -> fedRow(Houses.of(19, 6), 7, 8), "row() of 2 behind 19", BracketHouse::row, 1);
        Edge.is("blots()", x.blots(), 1);
        Edge.is("the 20th", x.at(19, 0), 7);
        x = Edge.granted(() -> fedRow(Houses.of(18, 6), 7, 8), "row() of 2 behind 18", BracketHouse::row, 2);
        Edge.is("blots()", x.blots(), 0);
        x = Edge.granted(() -> fedRow(Houses.full(), 7), "row() of 1 behind 20", BracketHouse::row, 0);
        Edge.is("blots()", x.blots(), 1);
        Edge.is("the 20th", x.at(19, 0), 7);
        Edge.is("it is not refused, so nothing can be undone", x.count(3), 0);
        Edge.of(5, "A ROW of SIGNS, 20 at most, at PLACES 0, 1 ..:");
        x = Edge.granted(() -> fedRow(new BracketHouse(), Houses.times(400, 9)), "row() of 400", BracketHouse::row, 20);
        Edge.is("count(0)", x.count(0), 20);
        Edge.is("blots()", x.blots(), 380);
        Edge.is("at(20, 0)", x.at(20, 0), -1);
    }

    private static void signsOfNothing() {
        Edge.of(5, "-6 the TAPE is empty.");
        Edge.refused(() -> fedRow(Houses.lived()), "row() of an empty tape", BracketHouse::row, -6);
        Edge.refused(BracketHouse::new, "row() of a tape that never had a byte", BracketHouse::row, -6);
        Edge.refused(() -> fedRow(Houses.full()), "row() of an empty tape, without room", BracketHouse::row, -6);
        Edge.granted(() -> fedRow(Houses.lived(), 0), "row() of one byte", BracketHouse::row, 1);
    }

    private static void blots() {
        Edge.of(6, "How many BLOTS the latest row() had that was not REFUSED (0 ahead of any).");
        Edge.asked(BracketHouse::new, "blots() ahead of any", BracketHouse::blots, 0);
        BracketHouse x = new BracketHouse();
        x.row();
        Edge.is("blots() behind a refused one alone", x.blots(), 0);
        fedRow(x, 12, 13, 14).row();
        Edge.is("blots() of three", x.blots(), 3);
        x.row();
        Edge.is("blots() behind a refused one", x.blots(), 3);
        fedRow(x, 12).row();
        Edge.is("blots() of the latest, not of all", x.blots(), 1);
        Due.law(x, "costs 1 1");
        Due.orders(x, "put 0 at 0");
        x.image(0);
        x.back(0);
        Edge.is("blots() behind others", x.blots(), 1);
        fedRow(x, 0).row();
        Edge.is("blots() of none", x.blots(), 0);
        fedRow(x, Houses.times(400, 255)).row();
        Edge.is("blots() of 400", x.blots(), 400);
        Edge.asked(Houses::lived, "blots()", BracketHouse::blots, 1);
    }
}
