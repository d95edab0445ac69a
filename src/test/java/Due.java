/** A house under test, with shorter ways to feed it, and a tally of wrong answers. */
final class Due {
    private static int wrong = 0;
    private static int asked = 0;

    private Due() { }

    static void is(String call, long got, long want) {
        asked++;
        if (got != want) {
            wrong++;
            if (wrong <= 50) System.out.println(call + " answered " + got + ", due is " + want);
        }
    }

    static boolean allFine() {
        return wrong == 0;
    }

    /** Prints the tally and ends the program. */
    static void close() {
        System.out.println(wrong == 0 ? asked + " answers are as due" : wrong + " of " + asked + " answers are not as due");
        System.exit(wrong == 0 ? 0 : 1);
    }

    static void feed(BracketHouse x, String text) {
        byte[] bytes = new byte[text.length()];
        for (int i = 0; i < bytes.length; i++) bytes[i] = (byte) text.charAt(i);
        feed(x, bytes);
    }

    static void feed(BracketHouse x, byte[] bytes) {
        for (int i = 0; i < bytes.length; i += 20) {
            int[] n = packed(bytes, i);
            x.feed(n[0], n[1], n[2], n[3], n[4]);
        }
        x.end(bytes.length);
    }

    /** Twenty bytes from a place on as five numbers, 0 behind the last one. */
    static int[] packed(byte[] bytes, int from) {
        int[] n = new int[5];
        for (int k = 0; k < 20; k++) {
            int b = from + k < bytes.length ? bytes[from + k] & 255 : 0;
            n[k / 4] = n[k / 4] << 8 | b;
        }
        return n;
    }

    static int law(BracketHouse x, String text) {
        feed(x, text);
        return x.law();
    }

    static int orders(BracketHouse x, String text) {
        feed(x, text);
        return x.orders();
    }

    static BracketHouse house(int... signs) {
        BracketHouse x = new BracketHouse();
        row(x, signs);
        return x;
    }

    static int row(BracketHouse x, int... signs) {
        byte[] bytes = new byte[signs.length];
        for (int i = 0; i < signs.length; i++) bytes[i] = (byte) signs[i];
        feed(x, bytes);
        return x.row();
    }

    /** A house with a row and a law that is in force. */
    static BracketHouse under(String law, int... signs) {
        BracketHouse x = signs.length == 0 ? new BracketHouse() : house(signs);
        x.force(law(x, law));
        return x;
    }

    static void rowIs(String name, BracketHouse x, int... signs) {
        is(name + " length", x.count(0), signs.length);
        for (int p = 0; p < signs.length; p++) is(name + " at(" + p + ", 0)", x.at(p, 0), signs[p]);
    }
}
