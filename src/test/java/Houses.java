/** Houses that edges are tried on. */
final class Houses {
    static final int[] LIVED_ROW = {8, 6, 3, 1};

    private Houses() { }

    /** A house with something of all that a call could spoil. Its row is LIVED_ROW, page 8, deep 5, mood 6. */
    static BracketHouse lived() {
        BracketHouse x = lawful();
        Due.row(x, 0, 6, 3, 99, 1);
        x.image(0);
        x.put(7, 0);
        x.cut(1);
        x.turn(0, 8);
        x.pass();
        spoil(x);
        return x;
    }

    /** The same with a row of 20 signs, places 0 and 19 of which have been turned. */
    static BracketHouse full() {
        BracketHouse x = lawful();
        Due.row(x, 0, 6, 3, 7, 1, 8, 4, 9, 2, 10, 5, 11, 0, 0, 3, 3, 1, 4, 6, 6, 6);
        x.image(0);
        x.turn(0, 1);
        x.turn(19, 7);
        x.pass();
        spoil(x);
        return x;
    }

    /** The same without signs. */
    static BracketHouse bare() {
        BracketHouse x = lawful();
        x.image(0);
        x.put(7, 0);
        x.cut(0);
        x.pass();
        spoil(x);
        return x;
    }

    private static BracketHouse lawful() {
        BracketHouse x = new BracketHouse();
        Due.law(x, "costs 3 + place; strikes 5 + place; worth sign; bars if sign = 2 and place = 1");
        Due.law(x, "costs page + mood; bars if sign = 5");
        x.force(0);
        x.terms(0, 7);
        x.terms(1, 5);
        x.terms(2, 6);
        return x;
    }

    private static void spoil(BracketHouse x) {
        Due.orders(x, "pass; cut 20");
        Due.law(x, "costs 1 1");
        x.readers(5, 9);
        x.put(12, 0);
        x.cut(99);
        Due.feed(x, "costs 9");
    }

    /** A house with so many laws, the i-th of which costs 10 + i; none is in force. */
    static BracketHouse withLaws(int n) {
        BracketHouse x = new BracketHouse();
        for (int i = 0; i < n; i++) Due.law(x, "costs " + (10 + i));
        return x;
    }

    /** So many signs of one number. */
    static int[] times(int n, int sign) {
        int[] signs = new int[n];
        java.util.Arrays.fill(signs, sign);
        return signs;
    }

    /** A house with so many signs of one number. */
    static BracketHouse of(int n, int sign) {
        return n == 0 ? new BracketHouse() : Due.house(times(n, sign));
    }
}
