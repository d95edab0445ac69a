/** Each promise of the document by itself: ordinary inputs, edges, wrong inputs. */
public final class PromisesTest {
    public static void main(String[] args) {
        newObject();
        terms();
        feedAndEnd();
        rowAndBlots();
        law();
        orders();
        faultAndStopped();
        force();
        asks();
        put();
        cut();
        turn();
        pass();
        undo();
        at();
        said();
        whole();
        mend();
        strike();
        run();
        fits();
        rows();
        nthAndRank();
        game();
        hide();
        likely();
        compare();
        readersAndDrawn();
        imageAndBack();
        count();
        status();
        Due.close();
    }

    /** Promise 1. */
    private static void newObject() {
        BracketHouse x = new BracketHouse();
        int[] want = {0, 0, 0, 0, 0, 0, 0, 0, 0, 0, -1, 0, 4, 0};
        for (int what = 0; what < want.length; what++) Due.is("new count(" + what + ")", x.count(what), want[what]);
        Due.is("new blots", x.blots(), 0);
        Due.is("new fault", x.fault(), -1);
        Due.is("new stopped", x.stopped(), -1);
        Due.is("new status", x.status(), 0);
        Due.is("new drawn(0)", x.drawn(0), -1);
        Due.is("new drawn(1)", x.drawn(1), -1);
        Due.is("new at", x.at(0, 0), -1);
        Due.is("new whole", x.whole(0, 0), -1);
        Due.is("NONE", BracketHouse.NONE, -1);
        Due.is("NOTHING", BracketHouse.NOTHING, -100000);
    }

    /** Promise 2. */
    private static void terms() {
        BracketHouse x = new BracketHouse();
        Due.is("terms page", x.terms(0, 999), 0);
        Due.is("terms page again", x.terms(0, 0), 999);
        Due.is("terms deep", x.terms(1, 9), 4);
        Due.is("terms deep again", x.terms(1, 1), 9);
        Due.is("terms mood", x.terms(2, 9), 0);
        Due.is("terms mood again", x.terms(2, 3), 9);
        int[][] bad = {{-1, 1}, {3, 1}, {0, -1}, {0, 1000}, {1, 0}, {1, 10}, {2, -1}, {2, 10}, {Integer.MIN_VALUE, 1}, {Integer.MAX_VALUE, 1}};
        for (int i = 0; i < bad.length; i++) {
            Due.is("terms bad " + i, x.terms(bad[i][0], bad[i][1]), -1);
            Due.is("terms bad status", x.status(), -1);
        }
        Due.is("terms refused", x.count(5), bad.length);
        Due.is("page stays", x.count(11), 0);
        Due.is("deep stays", x.count(12), 1);
        Due.is("mood stays", x.count(13), 3);
        Due.is("good status", x.terms(0, 5), 0);
        Due.is("good status", x.status(), 0);
    }

    /** Promises 3, 4. */
    private static void feedAndEnd() {
        BracketHouse x = new BracketHouse();
        Due.is("end of nothing", x.end(0), 0);
        Due.is("end beyond", x.end(1), -1);
        for (int i = 1; i <= 20; i++) Due.is("feed " + i, x.feed(0, 0, 0, 0, 0), 20 * i);
        Due.is("feed beyond 400", x.feed(0, 0, 0, 0, 0), -1);
        Due.is("tape stays", x.count(4), 400);
        Due.is("end(401)", x.end(401), -1);
        Due.is("end(-1)", x.end(-1), -1);
        Due.is("end(381)", x.end(381), 381);
        Due.is("feed beyond by one", x.feed(0, 0, 0, 0, 0), -1);
        Due.is("end(380)", x.end(380), 380);
        Due.is("feed to 400", x.feed(0, 0, 0, 0, 0), 400);
        Due.is("end(0)", x.end(0), 0);
        Due.is("no refusal", x.count(5) + x.count(6) + x.count(7) + x.count(8) + x.count(9), 0);
        x.feed(0x00010203, 0x04050607, 0x08090A0B, 0x0B0A0908, 0x07060504);
        Due.is("row of fed", x.row(), 20);
        Due.rowIs("highest first", x, 0, 1, 2, 3, 4, 5, 6, 7, 8, 9, 10, 11, 11, 10, 9, 8, 7, 6, 5, 4);
        x = new BracketHouse();
        x.feed(0x03FF0080, 0x80000003, 0, 0, 0);
        x.end(8);
        Due.is("row of high bytes", x.row(), 5);
        Due.rowIs("high bytes", x, 3, 0, 0, 0, 3);
    }

    /** Promises 5, 6. */
    private static void rowAndBlots() {
        BracketHouse x = new BracketHouse();
        Due.is("row of nothing", x.row(), -6);
        Due.is("row status", x.status(), -6);
        Due.is("row refused", x.count(9), 1);
        Due.is("row", Due.row(x, 0, 12, 3, 255, 11), 3);
        Due.is("blots", x.blots(), 2);
        Due.is("tape empty", x.count(4), 0);
        Due.is("row of nothing", x.row(), -6);
        Due.is("blots stay", x.blots(), 2);
        Due.is("row behind", Due.row(x, 6), 1);
        Due.is("blots anew", x.blots(), 0);
        Due.rowIs("row", x, 0, 3, 11, 6);
        Due.is("row of blots alone", Due.row(x, 12, 13), 0);
        Due.is("blots alone", x.blots(), 2);
        Due.is("blots alone status", x.status(), 0);
        x = Due.under("bars", 6, 6, 6, 6, 6, 6, 6, 6, 6, 6, 6, 6, 6, 6, 6, 6, 6, 6);
        Due.is("row without room, nothing barred", Due.row(x, 1, 99, 4, 2, 5), 2);
        Due.is("blots without room", x.blots(), 3);
        Due.is("row full", x.count(0), 20);
        Due.is("first to come", x.at(18, 0), 1);
        Due.is("last to come", x.at(19, 0), 4);
        Due.is("row when full", Due.row(x, 1), 0);
        Due.is("blots when full", x.blots(), 1);
    }

    /** Promise 7. */
    private static void law() {
        BracketHouse x = new BracketHouse();
        Due.is("law of nothing", x.law(), -6);
        Due.is("fault of nothing", x.fault(), 0);
        Due.is("law of blanks", Due.law(x, "   "), -6);
        Due.is("fault of blanks", x.fault(), 3);
        for (int i = 0; i < 6; i++) Due.is("law " + i, Due.law(x, "costs " + i), i);
        Due.is("fault of a good one", x.fault(), -1);
        Due.is("tape empty", x.count(4), 0);
        Due.is("laws", x.count(2), 6);
        Due.law(new BracketHouse(), "bars");
        Due.orders(x, "nonsense");
        Due.is("fault of orders", x.fault(), 0);
        Due.is("seventh law", Due.law(x, "costs 1 1"), -5);
        Due.is("seventh status", x.status(), -5);
        Due.is("tape empty, too", x.count(4), 0);
        Due.is("fault is not of one that was not read", x.fault(), 0);
        Due.is("seventh without a text", x.law(), -5);
        Due.is("laws stay", x.count(2), 6);
        Due.is("refused by -5", x.count(8), 2);
        for (int i = 0; i < 6; i++) {
            x.force(i);
            Due.is("law " + i + " costs", x.asks(0, 0, 0), i);
        }
    }

    /** Promise 8. */
    private static void orders() {
        BracketHouse x = new BracketHouse();
        Due.is("orders of nothing", x.orders(), -6);
        Due.is("orders", Due.orders(x, "put 0 at 0; put 6 at length; put 3 at length; pass times 3"), 6);
        Due.rowIs("orders", x, 0, 6, 3);
        Due.is("page", x.count(11), 3);
        Due.is("undoable", x.count(3), 6);
        Due.is("tape empty", x.count(4), 0);
        Due.is("not run", Due.orders(x, "cut 0 if 1 = 2; cut 0 if 1/0 = 1; cut 0 if not 1/0 = 1; pass if 1 < 2"), 1);
        Due.is("page", x.count(11), 4);
        Due.is("if of no clause", Due.orders(x, "cut 0 if 0 = 1"), 0);
        Due.rowIs("as it was", x, 0, 6, 3);
        // done, latest, loose, sign, deep
        Due.is("done", Due.orders(x, "pass times 20 if done < 5"), 5);
        Due.is("page by done", x.count(11), 9);
        Due.is("latest", Due.orders(x, "pass if latest = 0 - 1; put 7 at 0; pass if latest = 1; pass if latest = 0 - 1"), 3);
        Due.is("loose", Due.orders(x, "put 1 at 0 if loose = 0; cut 0 if loose = 1; cut 0 times 2 if loose > 0"), 2);
        Due.is("sign, deep", Due.orders(x, "pass if sign 2 = 6 and deep 2 = 1; pass if sign 1 = 0 and deep 1 = 0; pass if sign 4 = 0 - 1 and deep 19 = 0 - 1"), 3);
        Due.is("sign and deep as they are then", Due.orders(x, "cut 0; pass if sign 1 = 6 and deep 1 = 1 and length = 3; cut 0; pass if deep 0 = 0"), 4);
        Due.rowIs("cut", x, 6, 3);
        Due.is("turn", Due.orders(x, "turn 0 to 1; turn 1 to sign 0 + 3"), 2);
        Due.rowIs("turned", x, 1, 4);
        wholly();
        eachRefusal();
    }

    private static void wholly() {
        BracketHouse x = Due.house(0, 3);
        x.put(6, 0);
        Due.is("put, turn, cut, pass, then none", Due.orders(x, "put 7 at 0; turn 1 to 8; cut 3; pass; put 1 at 99"), -3);
        Due.is("stopped at", x.stopped(), 4);
        Due.rowIs("as it was", x, 6, 0, 3);
        Due.is("page as it was", x.count(11), 0);
        Due.is("undoable as it was", x.count(3), 1);
        Due.is("-3 once", x.count(7), 1);
        Due.is("no -2 for what is within", x.count(6), 0);
        Due.is("undo what was ahead", x.undo(), 0);
        Due.rowIs("undone", x, 0, 3);
        x = Due.house(6);
        for (int i = 0; i < 16; i++) x.turn(0, i % 2 == 0 ? 7 : 6);
        Due.is("more than 16, then none", Due.orders(x, "pass times 20; cut 5"), -3);
        Due.is("16 as they were", x.count(3), 16);
        for (int i = 0; i < 16; i++) Due.is("turned back", x.undo(), 2);
        Due.is("no more", x.undo(), -3);
        Due.is("at times' third", Due.orders(x, "pass; cut 0 times 3; pass"), -3);
        Due.is("which clause", x.stopped(), 1);
        Due.rowIs("the one stays", x, 6);
    }

    private static void eachRefusal() {
        BracketHouse x = Due.under("bars if sign = 5", 6);
        String[] bad = {"put 12 at 0", "put 0-1 at 0", "put 0 at 2", "put 0 at 0-1", "put 5 at 0", "cut 1", "cut 0-1", "turn 1 to 0",
            "turn 0 to 12", "turn 0 to 6", "turn 0 to 5", "put 1/0 at 0", "put 0 at 1%0", "cut 1/0", "turn 1/0 to 1", "turn 0 to 1/0",
            "cut 1000*1000*1000*1000", "cut 0*1000*1000*1000+1000*1000*1000+1-1000*1000*1000"};
        for (String text : bad) {
            Due.is(text, Due.orders(x, text), -3);
            Due.is(text + " stopped", x.stopped(), 0);
            Due.is(text + " fault", x.fault(), -1);
            Due.rowIs(text, x, 6);
        }
        Due.is("each by -3", x.count(7), bad.length);
        x.terms(0, 998);
        Due.is("last page", Due.orders(x, "pass"), 1);
        Due.is("beyond the last page", Due.orders(x, "pass"), -3);
        x = Due.house(6, 6, 6, 6, 6, 6, 6, 6, 6, 6, 6, 6, 6, 6, 6, 6, 6, 6, 6);
        Due.is("one has room", Due.orders(x, "put 0 at 0"), 1);
        Due.is("no room", Due.orders(x, "put 0 at 0"), -3);
        Due.is("no -5", x.count(8), 0);
        Due.is("latest is what put told", Due.orders(Due.under("costs 7"), "put 0 at 0; pass times latest"), -6);
        x = Due.under("costs 40 + place");
        Due.is("latest", Due.orders(x, "put 0 at 0; put 0 at 1; pass if latest = 41; cut 0; pass if latest = 41"), 5);
    }

    /** Promises 9, 10. More of FAULT is in TextsTest. */
    private static void faultAndStopped() {
        BracketHouse x = new BracketHouse();
        Due.law(x, "costs 1; costs");
        Due.is("fault at the end", x.fault(), 14);
        Due.orders(x, "pass; cut 0");
        Due.is("fault of orders that could be read", x.fault(), -1);
        Due.is("stopped", x.stopped(), 1);
        Due.law(x, "bars x");
        Due.is("stopped is of orders alone", x.stopped(), 1);
        Due.is("fault", x.fault(), 5);
        x.cut(7);
        x.row();
        Due.is("fault stays", x.fault(), 5);
        Due.orders(x, "pas");
        Due.is("stopped of orders that can't be read", x.stopped(), -1);
        Due.orders(x, "cut 0");
        Due.is("stopped", x.stopped(), 0);
        Due.orders(x, "pass");
        Due.is("stopped of good orders", x.stopped(), -1);
    }

    /** Promise 11. */
    private static void force() {
        BracketHouse x = new BracketHouse();
        Due.is("force none", x.force(-1), -1);
        Due.is("force none status", x.status(), 0);
        Due.is("force(0) without laws", x.force(0), -2);
        Due.law(x, "costs 5");
        Due.law(x, "costs 6");
        Due.is("no law in force by being made", x.count(10), -1);
        Due.is("force(1)", x.force(1), -1);
        Due.is("force(0)", x.force(0), 1);
        Due.is("force(2)", x.force(2), -2);
        Due.is("force(-2)", x.force(-2), -2);
        Due.is("force status", x.status(), -2);
        Due.is("in force", x.count(10), 0);
        Due.is("costs", x.asks(0, 0, 0), 5);
        Due.is("force(-1)", x.force(-1), 0);
        Due.is("costs without", x.asks(0, 0, 0), 1);
        Due.is("refused by -2", x.count(6), 3);
    }

    /** Promise 12. */
    private static void asks() {
        BracketHouse x = Due.under("costs 200; strikes 0 - 5; worth 99; bars if place = length", 0, 3);
        Due.is("nearest above", x.asks(0, 0, 0), 99);
        Due.is("nearest below", x.asks(0, 0, 1), 0);
        Due.is("worth", x.asks(0, 0, 2), 99);
        Due.is("not barred", x.asks(0, 0, 3), 0);
        Due.is("barred", x.asks(0, 2, 3), 1);
        int[][] bad = {{-1, 0, 0}, {12, 0, 0}, {0, -1, 0}, {0, 3, 0}, {0, 0, -1}, {0, 0, 4}};
        for (int[] b : bad) Due.is("asks bad", x.asks(b[0], b[1], b[2]), -1);
        Due.is("nothing is refused", x.count(5) + x.count(6), 0);
        x = Due.under("costs 5; costs 1/0; costs 6 if 1%0=0; costs 7 if 1=2; strikes 3 if sign<6; strikes 4 if sign<3; worth 8 if kind=2");
        Due.is("the last that holds", x.asks(0, 0, 0), 5);
        Due.is("strikes, last", x.asks(0, 0, 1), 4);
        Due.is("strikes, first", x.asks(3, 0, 1), 3);
        Due.is("strikes, none", x.asks(6, 0, 1), 1);
        Due.is("worth of a kind", x.asks(5, 0, 2), 8);
        Due.is("worth of another", x.asks(4, 0, 2), 1);
        for (int what = 0; what < 3; what++) Due.is("without a law", new BracketHouse().asks(11, 0, what), 1);
        Due.is("without a law", new BracketHouse().asks(11, 0, 3), 0);
    }

    /** Promise 13. */
    private static void put() {
        BracketHouse x = Due.under("costs sign * 10 + place; bars if place = 1 and sign = 2");
        Due.is("put", x.put(3, 0), 30);
        Due.is("put behind", x.put(4, 1), 41);
        Due.is("put between", x.put(5, 1), 51);
        Due.rowIs("put", x, 3, 5, 4);
        Due.is("bad sign ahead of a bad place", x.put(12, 9), -1);
        Due.is("sign -1", x.put(-1, 0), -1);
        Due.is("no place", x.put(0, 4), -2);
        Due.is("place -1", x.put(0, -1), -2);
        Due.is("barred", x.put(2, 1), -3);
        for (int i = 3; i < 20; i++) x.put(11, i);
        Due.is("no room", x.put(0, 0), -5);
        Due.is("barred ahead of no room", x.put(2, 1), -3);
        Due.is("no place ahead of no room", x.put(2, 21), -2);
        Due.is("status", x.status(), -2);
        Due.is("full", x.count(0), 20);
        x = Due.under("bars");
        Due.is("all barred, a bad place first", x.put(0, 1), -2);
        Due.is("all barred", x.put(0, 0), -3);
        x = Due.under("costs length * 10 + page + mood");
        x.terms(0, 3);
        x.terms(2, 4);
        Due.is("page, mood, length ahead of it", x.put(0, 0), 7);
        Due.is("page, mood, length ahead of it", x.put(0, 0), 17);
    }

    /** Promise 14. */
    private static void cut() {
        BracketHouse x = Due.under("strikes sign * 10 + place + length; bars", 1, 6, 4);
        Due.is("cut(3)", x.cut(3), -2);
        Due.is("cut(-1)", x.cut(-1), -2);
        Due.is("status", x.status(), -2);
        Due.is("cut(1)", x.cut(1), 64);
        Due.rowIs("cut", x, 1, 4);
        Due.is("cut(1)", x.cut(1), 43);
        Due.is("cut(0)", x.cut(0), 11);
        Due.is("cut of nothing", x.cut(0), -2);
    }

    /** Promise 15. */
    private static void turn() {
        BracketHouse x = Due.under("bars if sign = 2 and place = 1", 1, 6);
        Due.is("turn", x.turn(0, 2), 1);
        Due.is("turn a name", x.turn(1, 5), 6);
        Due.rowIs("turned", x, 2, 5);
        Due.is("barred", x.turn(1, 2), -3);
        Due.is("it is that one", x.turn(0, 2), -3);
        Due.is("bad sign first", x.turn(7, 12), -1);
        Due.is("sign -1", x.turn(0, -1), -1);
        Due.is("no place", x.turn(2, 2), -2);
        Due.is("place -1", x.turn(-1, 0), -2);
        Due.rowIs("stays", x, 2, 5);
        Due.is("undoable", x.count(3), 2);
    }

    /** Promise 16. */
    private static void pass() {
        BracketHouse x = new BracketHouse();
        Due.is("pass", x.pass(), 1);
        Due.is("pass", x.pass(), 2);
        x.terms(0, 998);
        Due.is("to 999", x.pass(), 999);
        Due.is("beyond", x.pass(), -3);
        Due.is("status", x.status(), -3);
        Due.is("page", x.count(11), 999);
        Due.is("undo", x.undo(), 3);
        Due.is("page", x.count(11), 998);
    }

    /** Promise 17. */
    private static void undo() {
        BracketHouse x = Due.house(0, 6, 3);
        Due.is("not a row()", x.undo(), -3);
        x.put(1, 1);
        x.cut(0);
        x.turn(0, 7);
        x.pass();
        Due.rowIs("ahead", x, 7, 6, 3);
        Due.is("undo pass", x.undo(), 3);
        Due.is("page", x.count(11), 0);
        Due.is("undo turn", x.undo(), 2);
        Due.rowIs("turn", x, 1, 6, 3);
        Due.is("undo cut", x.undo(), 1);
        Due.rowIs("cut", x, 0, 1, 6, 3);
        Due.is("undo put", x.undo(), 0);
        Due.rowIs("put", x, 0, 6, 3);
        Due.is("none left", x.undo(), -3);
        Due.is("status", x.status(), -3);
        for (int i = 0; i < 17; i++) x.put(i % 12, 0);
        Due.is("16 are kept", x.count(3), 16);
        for (int i = 0; i < 16; i++) Due.is("undo", x.undo(), 0);
        Due.is("the 17th is gone", x.undo(), -3);
        Due.rowIs("the first stays", x, 0, 0, 6, 3);
        for (int i = 0; i < 20; i++) x.turn(i % 4, 2 + i / 4 + i % 4);
        for (int i = 19; i >= 4; i--) {
            Due.is("undo a turn", x.undo(), 2);
            Due.is("what it was", x.at(i % 4, 0), 1 + i / 4 + i % 4);
        }
        Due.is("20 turns, 16 kept", x.undo(), -3);
        x.pass();
        x.row();
        x.terms(0, 5000);
        Due.is("refused ones leave it", x.count(3), 1);
        x.terms(2, 0);
        Due.is("behind terms()", x.undo(), -3);
        x.pass();
        Due.row(x, 50);
        Due.is("behind row()", x.undo(), -3);
        x = Due.under("costs 9");
        x.put(0, 0);
        x.force(-1);
        Due.law(x, "bars");
        x.force(1);
        x.image(0);
        x.readers(1, 9);
        x.put(99, 0);
        Due.is("others leave it, nothing is barred", x.undo(), 0);
        Due.is("force stays", x.count(10), 1);
    }

    /** Promise 18. */
    private static void at() {
        // 0 ( 1 [ 2 ) 3 ] 4 name 5 ) 6 } 7 {
        BracketHouse x = Due.house(0, 1, 3, 4, 6, 3, 5, 2);
        int[] mates = {5, 3, -1, 1, -1, 0, -1, -1};
        int[] deep = {0, 1, 2, 1, 1, 0, 0, 0};
        int[] loose = {0, 0, 1, 0, 0, 0, 1, 1};
        int[] signs = {0, 1, 3, 4, 6, 3, 5, 2};
        for (int p = 0; p < 8; p++) {
            Due.is("sign " + p, x.at(p, 0), signs[p]);
            Due.is("mate " + p, x.at(p, 1), mates[p]);
            Due.is("deep " + p, x.at(p, 2), deep[p]);
            Due.is("loose " + p, x.at(p, 3), loose[p]);
        }
        Due.is("loose", x.count(1), 3);
        Due.is("at(-1)", x.at(-1, 0), -1);
        Due.is("at(8)", x.at(8, 0), -1);
        Due.is("at what -1", x.at(0, -1), -1);
        Due.is("at what 4", x.at(0, 4), -1);
        // An opener that stays loose is in the way of all that are open ahead of it.
        x = Due.house(0, 1, 3);
        Due.is("in the way", x.at(0, 1), -1);
        Due.is("loose", x.count(1), 3);
        x.cut(1);
        Due.is("out of the way", x.at(0, 1), 1);
    }

    /** Promise 19. */
    private static void said() {
        Due.is("nobody", new BracketHouse().said(), 0);
        Due.is("all", Due.house(6, 7, 8, 9, 10, 11).said(), 63);
        Due.is("within", Due.house(6, 0, 7, 3, 8).said(), 5);
        Due.is("within and without", Due.house(0, 7, 3, 7).said(), 2);
        Due.is("a loose one hides nobody", Due.house(0, 11).said(), 32);
        Due.is("nor a wrong one", Due.house(0, 11, 4).said(), 32);
    }

    /** Promise 20. */
    private static void whole() {
        BracketHouse x = Due.house(0, 1, 4, 3, 6, 5);
        int[][] due = {{0, 3, 1}, {1, 2, 1}, {0, 4, 1}, {0, 5, 0}, {0, 2, 0}, {4, 4, 1}, {5, 5, 0}, {1, 3, 0}, {0, 6, -1}, {-1, 3, -1}, {3, 2, -1},
            {6, 6, -1}, {Integer.MIN_VALUE, Integer.MAX_VALUE, -1}};
        for (int[] d : due) Due.is("whole(" + d[0] + ", " + d[1] + ")", x.whole(d[0], d[1]), d[2]);
        Due.is("crossed", Due.house(0, 1, 3, 4).whole(0, 3), 0);
        Due.is("another kind", Due.house(0, 4).whole(0, 1), 0);
    }

    /** Promise 21. */
    private static void mend() {
        mendIs("nothing", new BracketHouse(), 0, 0);
        mendIs("whole", Due.house(0, 3, 7), 0, 0);
        mendIs("crossed", Due.house(0, 1, 3, 4), 2, 2);
        mendIs("20 open", Due.house(0, 1, 2, 0, 1, 2, 0, 1, 2, 0, 1, 2, 0, 1, 2, 0, 1, 2, 0, 1), 20, 20);
        mendIs("20 closed", Due.house(3, 4, 5, 3, 4, 5, 3, 4, 5, 3, 4, 5, 3, 4, 5, 3, 4, 5, 3, 4), 20, 20);
        mendIs("names are free", Due.under("costs 3", 6, 0, 7), 3, 1);
        // Of ( ] come [ ( ) ], ( ) [ ] and ( [ ] ).
        mendIs("by place", Due.under("costs place * 10", 0, 4), 10, 2);
        mendIs("by place, another way", Due.under("costs place * 10; bars if place = 0", 0, 4), 20, 2);
        mendIs("by place, the third way", Due.under("costs place * 10; bars if place = 0 or sign = 3 and place = 1", 0, 4), 30, 2);
        // Without the place between them there is [ ( ] ) alone.
        mendIs("can't be", Due.under("costs place * 10; bars if place = 1", 0, 4), 0, 0, false);
        mendIs("all barred", Due.under("bars", 0), 0, 0, false);
        mendIs("all barred and whole", Due.under("bars", 0, 3), 0, 0);
        mendIs("cheap ones", Due.under("costs 0; costs 1 if kind = 0", 0, 1, 3, 4), 0, 2);
        mendIs("free: the fewest", Due.under("costs 0", 0, 1, 3, 4), 0, 2);
        // ( ) with both barred ones elsewhere: the pair that stands costs nothing.
        mendIs("a pair that stands", Due.under("costs 0", 0, 6, 3), 0, 0);
        // ( [ ) : either ] within for 9 or ( ... ) apart, ] behind: ( for 1, ) for 1, ] for 1.
        mendIs("three for less than one", Due.under("costs 1; costs 9 if sign = 4 and place < 3", 0, 1, 3), 3, 3);
        BracketHouse x = Due.house(0);
        Due.is("mend(-1)", x.mend(-1), -1);
        Due.is("mend(2)", x.mend(2), -1);
        Due.is("the row stays", x.count(0), 1);
        // Asked with the length as now.
        mendIs("length as now", Due.under("costs 5; costs 50 if length > 2", 0, 0), 10, 2);
    }

    private static void mendIs(String name, BracketHouse x, int cost, int signs) {
        mendIs(name, x, cost, signs, true);
    }

    private static void mendIs(String name, BracketHouse x, int cost, int signs, boolean can) {
        Due.is("mend(0), " + name, x.mend(0), can ? cost : -1);
        Due.is("mend(1), " + name, x.mend(1), can ? signs : -1);
    }

    /** Promise 22. */
    private static void strike() {
        strikeIs("nothing", new BracketHouse(), 0);
        strikeIs("names", Due.house(6, 7), 0, 0, 0);
        strikeIs("whole", Due.house(0, 6, 3), 0, 0, 0, 0);
        strikeIs("crossed: the first is paired", Due.house(0, 1, 3, 4), 2, 0, 1, 0, 1);
        strikeIs("two closers: the lowest", Due.house(0, 3, 3), 1, 0, 0, 1);
        strikeIs("two openers: the first is paired", Due.house(0, 0, 3), 1, 0, 1, 0);
        strikeIs("by cost", Due.under("strikes 5 if place = 1", 0, 0, 3), 1, 1, 0, 0);
        strikeIs("by cost, closers", Due.under("strikes 5 if place = 2", 0, 3, 3), 1, 0, 1, 0);
        strikeIs("for nothing: paired all the same", Due.under("strikes 0", 0, 3), 0, 0, 0);
        strikeIs("for nothing: the lowest", Due.under("strikes 0", 0, 3, 1, 4, 3), 0, 0, 0, 0, 0, 1);
        strikeIs("loose ones", Due.house(3, 6, 0), 2, 1, 0, 1);
        strikeIs("dear ones stay", Due.under("strikes 9 if kind = 1", 0, 1, 3, 4), 2, 1, 0, 1, 0);
        int[] cuts = new int[20];
        int[] signs = new int[20];
        for (int i = 0; i < 20; i++) signs[i] = i < 10 ? 0 : 3;
        strikeIs("ten within one another", Due.house(signs), 0, cuts);
        for (int i = 0; i < 20; i++) {
            signs[i] = 5;
            cuts[i] = 1;
        }
        strikeIs("99 each", Due.under("strikes 99", signs), 1980, cuts);
        BracketHouse x = Due.house(0);
        Due.is("strike(-1)", x.strike(-1), -1);
        Due.is("strike(2)", x.strike(2), -1);
        Due.is("strike(MAX)", x.strike(Integer.MAX_VALUE), -1);
        Due.is("the row stays", x.count(0), 1);
    }

    private static void strikeIs(String name, BracketHouse x, int least, int... cuts) {
        Due.is("strike(0), " + name, x.strike(0), least);
        for (int p = 0; p < cuts.length; p++) Due.is("strike(1 + " + p + "), " + name, x.strike(1 + p), cuts[p]);
        Due.is("strike beyond, " + name, x.strike(1 + cuts.length), -1);
    }

    /** Promise 23. */
    private static void run() {
        runIs("nothing", new BracketHouse(), 0, -1);
        runIs("none", Due.house(0, 4, 1, 1), 0, -1);
        runIs("all", Due.house(0, 6, 3, 7), 4, 0);
        runIs("the first of two", Due.house(0, 3, 0, 1, 4, 5, 3), 2, 0);
        runIs("the longer one", Due.house(6, 0, 6, 7, 0), 2, 2);
        runIs("read by itself", Due.house(0, 1, 4, 7, 2), 3, 1);
        runIs("crossed", Due.house(0, 1, 3, 4), 0, -1);
        runIs("at the end", Due.house(3, 3, 6), 1, 2);
        BracketHouse x = Due.house(6);
        Due.is("run(-1)", x.run(-1), -1);
        Due.is("run(2)", x.run(2), -1);
    }

    private static void runIs(String name, BracketHouse x, int length, int first) {
        Due.is("run(0), " + name, x.run(0), length);
        Due.is("run(1), " + name, x.run(1), first);
    }

    /** Promise 24. */
    private static void fits() {
        BracketHouse x = Due.under("bars", 1, 6, 3);
        Due.is("an opener, barred or not", x.fits(0), 1);
        Due.is("a closer", x.fits(2), 16);
        Due.is("a name", x.fits(1), 0);
        Due.is("fits(-1)", x.fits(-1), -1);
        Due.is("fits(3)", x.fits(3), -1);
        x = Due.house(0, 6, 3, 3);
        Due.is("one more opener", x.fits(1), 1);
        Due.is("not there", x.fits(0), 0);
        x = Due.house(0, 6, 7, 3);
        Due.is("none", x.fits(1), 0);
        Due.rowIs("the row stays", x, 0, 6, 7, 3);
        Due.is("what is there fits", Due.house(2, 5).fits(1), 32);
        Due.is("nothing", new BracketHouse().fits(0), -1);
    }

    /** Promise 25. */
    private static void rows() {
        BracketHouse x = new BracketHouse();
        long[] catalan = {1, 1, 2, 5, 14, 42, 132, 429, 1430, 4862, 16796, 58786, 208012};
        long three = 1;
        for (int n = 0; n <= 12; n++) {
            Due.is("rows(" + n + ", n)", x.rows(n, n), three * catalan[n]);
            Due.is("rows(" + n + ", 12)", x.rows(n, 12), three * catalan[n]);
            Due.is("rows(" + n + ", 1)", x.rows(n, 1), three);
            Due.is("rows(" + n + ", 2)", x.rows(n, 2), n == 0 ? 1 : three << n - 1);
            Due.is("rows(" + n + ", 0)", x.rows(n, 0), n == 0 ? 1 : 0);
            Due.is("rows(" + n + ", n - 1)", n == 0 ? 1 : x.rows(n, n - 1), n == 0 ? 1 : three * (catalan[n] - 1));
            three *= 3;
        }
        for (int n = 0; n <= 4; n++) {
            for (int deep = 0; deep <= 4; deep++) Due.is("rows(" + n + ", " + deep + ")", x.rows(n, deep), Model.list(n, deep).size());
        }
        int[][] bad = {{-1, 0}, {13, 0}, {0, -1}, {0, 13}};
        for (int[] b : bad) Due.is("rows bad", x.rows(b[0], b[1]), -1);
    }

    /** Promises 26, 27. */
    private static void nthAndRank() {
        for (int deep = 1; deep <= 4; deep++) {
            for (int n = 1; n <= 4; n++) eachRow(n, deep);
        }
        BracketHouse x = new BracketHouse();
        x.terms(1, 9);
        int[] last = {2, 5, 2, 5, 2, 5, 2, 5, 2, 5, 2, 5, 2, 5, 2, 5, 2, 5, 2, 5, 2, 5, 2, 5};
        long all = x.rows(12, 9);
        for (int i = 0; i < 24; i++) {
            Due.is("the last of 12 pairs", x.nth(12, all - 1, i), last[i]);
            Due.is("the first of 12 pairs", x.nth(12, 0, i), i < 9 || i == 10 || i == 12 || i == 14 ? 0 : 3);
        }
        Due.is("beyond the last", x.nth(12, all, 0), -1);
        Due.is("k -1", x.nth(12, -1, 0), -1);
        Due.is("k least", x.nth(12, Long.MIN_VALUE, 0), -1);
        Due.is("k greatest", x.nth(12, Long.MAX_VALUE, 0), -1);
        Due.is("n 13", x.nth(13, 0, 0), -1);
        Due.is("n 0", x.nth(0, 0, 0), -1);
        Due.is("n -1", x.nth(-1, 0, 0), -1);
        Due.is("i -1", x.nth(1, 0, -1), -1);
        Due.is("i 2", x.nth(1, 0, 2), -1);
        for (long k = 0; k < x.rows(10, 9); k += x.rows(10, 9) / 50) tenPairs(k);
        Due.is("nothing is the one of 0 pairs", new BracketHouse().rank(), 0);
        Due.is("a name", Due.house(6).rank(), -1);
        Due.is("a name within", Due.house(0, 6, 3).rank(), -1);
        Due.is("not whole", Due.house(0, 4).rank(), -1);
        x = Due.house(0, 0, 3, 3);
        Due.is("deep enough", x.rank(), 0);
        x.terms(1, 1);
        Due.is("too deep", x.rank(), -1);
    }

    private static void eachRow(int n, int deep) {
        BracketHouse x = new BracketHouse();
        java.util.List<java.util.List<Integer>> all = Model.list(n, deep);
        for (int k = 0; k < all.size(); k++) {
            // A house answers 512 calls.
            if (k % 30 == 0) {
                x = new BracketHouse();
                x.terms(1, deep);
                x.image(1);
                // What was worked out for greater depths must not be in the way.
                x.rows(12, 12);
            }
            byte[] signs = new byte[2 * n];
            for (int i = 0; i < 2 * n; i++) {
                signs[i] = (byte) (int) all.get(k).get(i);
                Due.is("nth(" + n + ", " + k + ", " + i + ")", x.nth(n, k, i), signs[i]);
            }
            Due.feed(x, signs);
            x.row();
            Due.is("rank of the row of " + k, x.rank(), k);
            x.back(1);
        }
        for (int i = 0; i < 2 * n; i++) Due.is("nth beyond", x.nth(n, all.size(), i), -1);
    }

    private static void tenPairs(long k) {
        BracketHouse x = new BracketHouse();
        x.terms(1, 9);
        byte[] signs = new byte[20];
        for (int i = 0; i < 20; i++) signs[i] = (byte) x.nth(10, k, i);
        Due.feed(x, signs);
        x.row();
        Due.is("rank of the row of " + k, x.rank(), k);
    }

    /** Promise 28. */
    private static void game() {
        BracketHouse x = new BracketHouse();
        Due.is("nothing to win", x.game(0), 0);
        Due.is("nothing to take", x.game(1), -100000);
        Due.is("game(2)", x.game(2), -100000);
        Due.is("game(-1)", x.game(-1), -100000);
        x = Due.under("worth 8 if place = 0; worth 15 if place = 1; worth 3 if place = 2; worth 7 if place = 3", 6, 0, 3, 7);
        Due.is("8 15 3 7", x.game(0), 22 - 11);
        Due.is("the last one first", x.game(1), 1);
        x = Due.under("worth sign", 6, 11, 7);
        Due.is("it may be below 0", x.game(0), 6 + 7 - 11);
        x = Due.under("worth 0; worth 99 if place = 1", 6, 11, 7);
        Due.is("below 0", x.game(0), -99);
        Due.is("as good: the first one", x.game(1), 0);
        Due.is("one alone", Due.house(0).game(0), 1);
        Due.is("one alone is the first", Due.house(0).game(1), 0);
        Due.is("two", Due.under("worth place", 0, 0).game(1), 1);
    }

    /** Promise 29. */
    private static void hide() {
        BracketHouse x = Due.house(7, 0, 6, 3);
        hideIs("the first", x, 2, 2, 0, 0, 1);
        hideIs("who is not said", x, 1);
        hideIs("nobody", x, 0);
        hideIs("one said and one not", x, 3, 2, 0, 0, 1);
        hideIs("below 0", x, -1);
        hideIs("beyond 63", x, 64);
        hideIs("beyond 63 with one who is said", x, 66);
        Due.is("hide what -1", x.hide(2, -1), -1);
        Due.is("hide what 4", x.hide(2, 4), -1);
        hideIs("two places", Due.house(6, 0, 3, 6, 7), 1, 2, 0, 0, 4);
        hideIs("all names of all of them", Due.house(8, 6, 0, 3, 7), 3, 2, 0, 0, 5);
        hideIs("names within are hidden already", Due.house(0, 6, 3, 6), 1, 2, 0, 0, 4);
        hideIs("what is between is not whole", Due.house(6, 0, 6), 1);
        hideIs("another one can be", Due.house(6, 0, 7), 2, 2, 0, 2, 3);
        hideIs("cheaper kinds", Due.under("costs 5; costs 4 if kind = 2", 6), 1, 8, 2, 0, 1);
        hideIs("the lowest kind of two", Due.under("costs 5; costs 4 if kind > 0", 6), 1, 8, 1, 0, 1);
        hideIs("cheaper places", Due.under("costs 9 - place", 7, 6, 7, 7), 1, 8 + 5, 0, 1, 4);
        hideIs("kind ahead of places", Due.under("costs 5; costs 1 if kind = 2 and place = 0; costs 9 if kind = 2 and place > 1; bars if kind = 0 and place = 0", 7, 6), 1, 10, 0, 1, 2);
        hideIs("barred", Due.under("bars if sign = 0 or sign = 4; costs 3 if sign = 5; costs 2 if sign = 2", 6), 1, 5, 2, 0, 1);
        hideIs("barred all", Due.under("bars if sign < 3", 6), 1);
        hideIs("the closing one at its place as now", Due.under("bars if place = 2", 6, 7), 1, 2, 0, 0, 1);
        hideIs("a loose one can't be between", Due.under("costs 9 - place", 6, 0), 1, 9 + 8, 0, 0, 1);
        hideIs("nor ahead", Due.under("costs 9 + place", 3, 6), 1, 10 + 11, 0, 1, 2);
        hideIs("length as now", Due.under("costs length", 6, 7), 2, 4, 0, 0, 2);
    }

    private static void hideIs(String name, BracketHouse x, int people, int... want) {
        for (int what = 0; what < 4; what++) {
            Due.is("hide(" + people + ", " + what + "), " + name, x.hide(people, what), want.length == 0 ? -1 : want[what]);
        }
    }

    /** Promise 30. */
    private static void likely() {
        BracketHouse x = new BracketHouse();
        Due.is("likely(0)", x.likely(0), 1000000000000L);
        Due.is("likely(2)", x.likely(2), 83333333333L);
        // 5 10^11 open one; 2.5 10^11 two, 83333333333 none; 41666666666 one by that and by two.
        Due.is("likely(4)", x.likely(4), (41666666666L + 41666666666L) / 6);
        for (int n = -1; n <= 61; n++) {
            Due.is("likely(" + n + ")", x.likely(n), Model.likely(n));
            if (n % 2 == 1 && n > 0 && n < 61) Due.is("odd", x.likely(n), 0);
        }
        Due.is("likely(MAX)", x.likely(Integer.MAX_VALUE), -1);
        Due.is("again", x.likely(2), 83333333333L);
    }

    /** Promise 31. */
    private static void compare() {
        BracketHouse x = Due.house(0, 1);
        Due.law(x, "costs 5");
        Due.law(x, "bars");
        x.force(1);
        Due.is("by the one in force", x.mend(0), -1);
        Due.is("compare(-1)", x.compare(-1), 2);
        Due.is("compare(0)", x.compare(0), 10);
        Due.is("compare(1)", x.compare(1), -1);
        Due.is("compare(2)", x.compare(2), -1);
        Due.is("compare(-2)", x.compare(-2), -1);
        Due.is("the force stays", x.count(10), 1);
        Due.is("nothing is refused", x.count(6), 0);
        x.force(0);
        Due.is("none in place of one", x.compare(-1), 2);
    }

    /** Promises 32, 33. */
    private static void readersAndDrawn() {
        BracketHouse x = new BracketHouse();
        int[][] bad = {{-1, 1}, {1000001, 1}, {0, 0}, {0, 61}};
        for (int[] b : bad) Due.is("readers bad", x.readers(b[0], b[1]), -1);
        Due.is("readers bad status", x.status(), -1);
        Due.is("none kept", x.drawn(0), -1);
        // s: 12345 (0: put), 628841 (sign 5), then a place of 1.
        Due.is("one page", x.readers(0, 1), 0);
        Due.is("length", x.drawn(0), 1);
        Due.is("loose", x.drawn(1), 1);
        Due.is("sign", x.drawn(2), 5);
        Due.is("beyond", x.drawn(3), -1);
        Due.is("drawn(-1)", x.drawn(-1), -1);
        Due.is("drawn(MAX)", x.drawn(Integer.MAX_VALUE), -1);
        Due.is("the row stays", x.count(0), 0);
        Due.is("the page stays", x.count(11), 0);
        Due.is("nothing to undo", x.count(3), 0);
        Due.is("refused", x.readers(0, 0), -1);
        Due.is("the latest stays", x.drawn(2), 5);
        x.terms(0, 999);
        Due.row(x, 6);
        Due.is("at 999 it ends", x.readers(0, 60), 0);
        Due.is("as it was", x.drawn(2), 6);
        x.terms(0, 998);
        Due.is("one page more", x.readers(0, 60), 0);
        Due.is("one sign more", x.drawn(0), 2);
        x = Due.under("bars", 6);
        Due.is("all barred: draws all the same", x.readers(0, 1), 1);
        Due.is("nothing put", x.drawn(0), 1);
        // By the page on paper: all but the first page are barred.
        x = Due.under("bars if page > 0");
        x.readers(0, 60);
        Due.is("the page passes on paper", x.drawn(0) < 2 ? 1 : 0, 1);
        manyReaders();
    }

    private static void manyReaders() {
        for (int seed = 0; seed <= 1000000; seed += 40000) {
            Model m = new Model();
            BracketHouse x = Due.under("bars if sign = 2 and place > length / 2 and page % 2 = 1", 6, 0, 3, 7);
            m.tape.addAll(java.util.List.of(6, 0, 3, 7));
            m.row();
            for (char c : "bars if sign = 2 and place > length / 2 and page % 2 = 1".toCharArray()) m.tape.add((int) c);
            m.force(m.law());
            Due.is("readers of " + seed, x.readers(seed, 60), m.readers(seed, 60));
            for (int what = 0; what < 23; what++) Due.is("drawn(" + what + ") of " + seed, x.drawn(what), m.drawn(what));
        }
        // A full row: what is drawn to be put is not, what is drawn to be cut is.
        BracketHouse x = Due.house(6, 6, 6, 6, 6, 6, 6, 6, 6, 6, 6, 6, 6, 6, 6, 6, 6, 6, 6, 6);
        Due.is("full, put", x.readers(0, 1), 1);
        Due.is("still 20", x.drawn(0), 20);
    }

    /** Promises 34, 35. */
    private static void imageAndBack() {
        BracketHouse x = Due.house(0, 6);
        Due.is("image(-1)", x.image(-1), -1);
        Due.is("image(2)", x.image(2), -1);
        Due.is("back(-1)", x.back(-1), -1);
        Due.is("back(2)", x.back(2), -1);
        Due.is("back(0), not kept", x.back(0), -2);
        Due.law(x, "costs 5");
        x.force(0);
        x.terms(1, 7);
        x.pass();
        Due.is("image(0)", x.image(0), 0);
        Due.is("it leaves what can be undone", x.count(3), 1);
        Due.is("back(1), not kept", x.back(1), -2);
        Due.is("refused, it leaves that, too", x.count(3), 1);
        x.cut(0);
        Due.law(x, "costs 8");
        x.force(1);
        x.terms(2, 9);
        x.terms(0, 77);
        Due.is("image(1)", x.image(1), 0);
        x.pass();
        Due.orders(x, "cut 99");
        Due.row(x, 99);
        Due.law(x, "x");
        x.readers(0, 1);
        Due.feed(x, "costs 3");
        Due.is("back(0)", x.back(0), 0);
        Due.is("status", x.status(), 0);
        Due.rowIs("row", x, 0, 6);
        Due.is("laws", x.count(2), 1);
        Due.is("force", x.count(10), 0);
        Due.is("page", x.count(11), 1);
        Due.is("deep", x.count(12), 7);
        Due.is("mood", x.count(13), 0);
        Due.is("nothing to undo", x.undo(), -3);
        Due.is("blots stay", x.blots(), 1);
        Due.is("fault stays", x.fault(), 0);
        Due.is("stopped stays", x.stopped(), 0);
        Due.is("readers stay", x.drawn(0), 2);
        Due.is("refusals stay", x.count(5), 4);
        Due.is("the tape stays", x.count(4), 7);
        Due.is("a law of the same number", x.law(), 1);
        x.force(1);
        Due.is("it costs 3", x.asks(0, 0, 0), 3);
        Due.is("back(1)", x.back(1), 0);
        Due.is("the other law is as it was", x.asks(0, 0, 0), 8);
        Due.is("laws", x.count(2), 2);
        Due.rowIs("row", x, 6);
        Due.is("page", x.count(11), 77);
        Due.is("mood", x.count(13), 9);
        x.put(1, 0);
        Due.is("back(0) once more", x.back(0), 0);
        Due.rowIs("images stay", x, 0, 6);
        x.put(1, 0);
        x.image(0);
        x.cut(0);
        x.back(0);
        Due.rowIs("an image kept anew", x, 1, 0, 6);
    }

    /** Promise 36. */
    private static void count() {
        BracketHouse x = Due.house(0, 6, 4);
        Due.law(x, "bars if sign = 2");
        x.force(0);
        x.terms(0, 5);
        x.terms(1, 6);
        x.terms(2, 7);
        x.put(7, 0);
        x.put(12, 0);
        x.put(0, 9);
        x.force(9);
        x.put(2, 0);
        x.put(2, 0);
        x.turn(0, 7);
        x.row();
        x.orders();
        x.law();
        Due.law(x, "x");
        Due.feed(x, "seven b");
        int[] want = {4, 2, 1, 1, 7, 1, 2, 3, 0, 4, 0, 5, 6, 7};
        for (int what = 0; what < want.length; what++) Due.is("count(" + what + ")", x.count(what), want[what]);
        Due.is("count(-1)", x.count(-1), -1);
        Due.is("count(14)", x.count(14), -1);
        Due.is("count(MIN)", x.count(Integer.MIN_VALUE), -1);
        x.at(99, 99);
        x.asks(99, 99, 99);
        x.whole(9, 9);
        x.mend(9);
        x.nth(0, 0, 0);
        x.compare(9);
        x.end(999);
        for (int what = 5; what <= 9; what++) Due.is("not refused, count(" + what + ")", x.count(what), want[what]);
    }

    /** Promise 37. */
    private static void status() {
        BracketHouse x = new BracketHouse();
        x.at(9, 9);
        Due.is("a question is none", x.status(), 0);
        x.terms(9, 9);
        Due.is("terms", x.status(), -1);
        x.count(99);
        x.end(-1);
        x.fits(99);
        Due.is("it stays", x.status(), -1);
        x.pass();
        Due.is("pass", x.status(), 0);
        x.row();
        Due.is("row", x.status(), -6);
        x.undo();
        Due.is("undo", x.status(), 0);
        x.undo();
        Due.is("undo refused", x.status(), -3);
        x.force(-1);
        Due.is("force", x.status(), 0);
        x.cut(0);
        Due.is("cut", x.status(), -2);
        x.image(0);
        Due.is("image", x.status(), 0);
        x.image(5);
        Due.is("image refused", x.status(), -1);
        x.readers(1, 1);
        Due.is("readers", x.status(), 0);
        x.back(1);
        Due.is("back", x.status(), -2);
        Due.law(x, "bars");
        Due.is("law", x.status(), 0);
        Due.orders(x, "cut 0");
        Due.is("orders", x.status(), -3);
        x.put(0, 0);
        Due.is("put", x.status(), 0);
        x.turn(0, 0);
        Due.is("turn", x.status(), -3);
        Due.row(x, 1);
        Due.is("row fine", x.status(), 0);
        x.turn(1, 40);
        Due.is("turn refused by -1", x.status(), -1);
        Due.orders(x, "pass");
        Due.is("orders fine", x.status(), 0);
    }
}
