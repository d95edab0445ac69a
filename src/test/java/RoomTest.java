import java.lang.management.ManagementFactory;

/** All calls of a run live in one room: what the dearest runs make is measured in bytes. */
public final class RoomTest {
    // The room has some 7.3 million fields and elements; a run stays far below that.
    private static final long BYTES = 2_000_000;

    private static final com.sun.management.ThreadMXBean THREADS = (com.sun.management.ThreadMXBean) ManagementFactory.getThreadMXBean();

    public static void main(String[] args) {
        made(0);
        made(1);
        for (int kind = 0; kind < 4; kind++) {
            long bytes = made(kind);
            Due.is("run " + kind + " makes " + bytes + " bytes, few enough", bytes < BYTES ? 1 : 0, 1);
        }
        Due.close();
    }

    private static long allocated() {
        return THREADS.getThreadAllocatedBytes(Thread.currentThread().getId());
    }

    private static long made(int kind) {
        byte[] law = bytes("costs " + "1+".repeat(24) + "1;" + "bars;".repeat(10) + "worth " + "sign+".repeat(23) + "1");
        byte[] orders = bytes("put 0 at 0 times 20; cut 0 times 20; pass times 20; turn 0 to 1 if length > 0");
        long before = allocated();
        BracketHouse x = new BracketHouse();
        x.image(0);
        for (int call = 1; call < 512; call++) {
            if (kind == 0) texts(x, law, call, true);
            if (kind == 1) texts(x, orders, call, false);
            if (kind == 2) questions(x, call);
            if (kind == 3) deeds(x, call);
        }
        return allocated() - before;
    }

    private static byte[] bytes(String text) {
        byte[] b = new byte[(text.length() + 19) / 20 * 20];
        for (int i = 0; i < b.length; i++) b[i] = (byte) (i < text.length() ? text.charAt(i) : ' ');
        return b;
    }

    private static void texts(BracketHouse x, byte[] text, int call, boolean law) {
        int feeds = text.length / 20;
        int step = call % (feeds + 2);
        if (step == 0) x.back(0);
        else if (step <= feeds) feedOne(x, text, (step - 1) * 20);
        else if ((law ? x.law() : x.orders()) < 0) Due.is("a text of the dearest runs is refused by", x.status(), 0);
    }

    private static void feedOne(BracketHouse x, byte[] text, int from) {
        int a = word(text, from);
        x.feed(a, word(text, from + 4), word(text, from + 8), word(text, from + 12), word(text, from + 16));
    }

    private static int word(byte[] text, int from) {
        return (text[from] & 255) << 24 | (text[from + 1] & 255) << 16 | (text[from + 2] & 255) << 8 | text[from + 3] & 255;
    }

    private static void questions(BracketHouse x, int call) {
        if (call <= 20) {
            x.put(call * 7 % 12, 0);
            return;
        }
        switch (call % 12) {
            case 0: x.mend(0); break;
            case 1: x.strike(5); break;
            case 2: x.run(1); break;
            case 3: x.fits(3); break;
            case 4: x.rows(12, 12); break;
            case 5: x.nth(12, 1000, 20); break;
            case 6: x.rank(); break;
            case 7: x.game(1); break;
            case 8: x.hide(63, 0); break;
            case 9: x.likely(60); break;
            case 10: x.readers(call, 60); break;
            default: x.compare(-1); break;
        }
    }

    private static void deeds(BracketHouse x, int call) {
        switch (call % 6) {
            case 0: x.put(0, 0); break;
            case 1: x.turn(0, 1); break;
            case 2: x.cut(0); break;
            case 3: x.undo(); break;
            case 4: x.image(1); break;
            default: x.back(1); break;
        }
    }
}
