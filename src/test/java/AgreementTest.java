import java.util.List;
import java.util.Random;
import java.util.Set;

/** Long random runs of calls, each answered by the program and by Model, which must agree. */
public final class AgreementTest {
    private static final int RUNS = 150;
    private static final int CALLS = 250;

    private final Random random;
    private final BracketHouse x = new BracketHouse();
    private final Model m = new Model();
    private final StringBuilder told = new StringBuilder();

    private AgreementTest(long seed) {
        random = new Random(seed);
    }

    public static void main(String[] args) {
        int runs = args.length > 0 ? Integer.parseInt(args[0]) : RUNS;
        long first = args.length > 1 ? Long.parseLong(args[1]) : 1;
        for (long seed = first; seed < first + runs && Due.allFine(); seed++) {
            AgreementTest t = new AgreementTest(seed);
            for (int i = 0; i < CALLS && Due.allFine(); i++) t.oneCall();
            if (!Due.allFine()) System.out.println("seed " + seed + ":\n" + t.told);
        }
        Due.close();
    }

    private int pick(int n) {
        return random.nextInt(n);
    }

    /** Mostly least .. greatest, now and then outside. */
    private int near(int least, int greatest) {
        int kind = pick(40);
        if (kind == 0) return least - 1;
        if (kind == 1) return greatest + 1;
        if (kind == 2) return random.nextInt();
        return least + pick(greatest - least + 1);
    }

    private void check(String call, long got, long want) {
        told.append(call).append(" = ").append(got).append('\n');
        Due.is(call, got, want);
    }

    private void oneCall() {
        int length = m.w.row.size();
        switch (pick(30)) {
            case 0: terms(); break;
            case 1: if (pick(3) == 0) signs(); break;
            case 2: case 3: text(false); break;
            case 4: case 5: case 6: text(true); break;
            case 7: { int l = near(-1, Math.max(0, m.w.laws.size() - 1)); check("force(" + l + ")", x.force(l), m.force(l)); break; }
            case 8: case 9: { int s = near(0, 11); int p = near(0, length); int w = near(0, 3); check("asks(" + s + ", " + p + ", " + w + ")", x.asks(s, p, w), m.asks(s, p, w)); break; }
            case 10: case 11: case 12: case 13: { int s = near(0, 11); int p = near(0, length); check("put(" + s + ", " + p + ")", x.put(s, p), m.told(m.putOn(m.w, s, p))); break; }
            case 14: case 15: { int p = near(0, Math.max(0, length - 1)); check("cut(" + p + ")", x.cut(p), m.told(m.cutOn(m.w, p))); break; }
            case 16: { int p = near(0, Math.max(0, length - 1)); int s = near(0, 11); check("turn(" + p + ", " + s + ")", x.turn(p, s), m.told(m.turnOn(m.w, p, s))); break; }
            case 17: check("pass()", x.pass(), m.told(m.passOn(m.w))); break;
            case 18: case 19: check("undo()", x.undo(), m.undo()); break;
            case 20: { int k = near(0, 1); check("image(" + k + ")", x.image(k), m.image(k)); break; }
            case 21: if (pick(4) == 0) { int k = near(0, 1); check("back(" + k + ")", x.back(k), m.back(k)); } break;
            case 22: { int s = near(0, 1000000); int n = near(1, 60); check("readers(" + s + ", " + n + ")", x.readers(s, n), m.readers(s, n)); break; }
            case 23: if (length > 9) shrink(); break;
            default: break;
        }
        askState();
        if (m.w.row.size() <= 9) askPaper();
    }

    private void shrink() {
        while (m.w.row.size() > 5) check("cut(0)", x.cut(0), m.told(m.cutOn(m.w, 0)));
    }

    private void terms() {
        int what = near(0, 2);
        int value = pick(3) == 0 ? 990 + pick(12) : near(0, 9);
        check("terms(" + what + ", " + value + ")", x.terms(what, value), m.terms(what, value));
    }

    private void feed(byte[] bytes) {
        for (int i = 0; i < bytes.length; i += 20) {
            int[] n = Due.packed(bytes, i);
            check("feed(..)", x.feed(n[0], n[1], n[2], n[3], n[4]), m.feed(n[0], n[1], n[2], n[3], n[4]));
        }
        if (pick(100) > 0) check("end(" + bytes.length + ")", x.end(bytes.length), m.end(bytes.length));
    }

    private void signs() {
        byte[] bytes = new byte[pick(5) == 0 ? pick(30) : pick(5)];
        for (int i = 0; i < bytes.length; i++) bytes[i] = (byte) near(0, 11);
        feed(bytes);
        check("row()", x.row(), m.row());
        check("blots()", x.blots(), m.blots);
    }

    private void text(boolean orders) {
        String text = spoiled(orders ? orderText() : lawText());
        told.append("text ").append(text).append('\n');
        if (text.length() > 400) text = text.substring(0, 400);
        byte[] bytes = new byte[text.length()];
        for (int i = 0; i < bytes.length; i++) bytes[i] = (byte) text.charAt(i);
        feed(bytes);
        if (orders) {
            check("orders()", x.orders(), m.orders());
        } else {
            int was = m.w.laws.size();
            check("law()", x.law(), m.law());
            if (m.w.laws.size() > was && pick(2) == 0) check("force(" + was + ")", x.force(was), m.force(was));
        }
        check("fault()", x.fault(), m.fault);
        check("stopped()", x.stopped(), m.stopped);
    }

    private String spoiled(String text) {
        if (pick(4) > 0 || text.isEmpty()) return text;
        StringBuilder b = new StringBuilder(text);
        int p = pick(b.length());
        switch (pick(4)) {
            case 0: b.deleteCharAt(p); break;
            case 1: b.insert(p, "();[]<>=+-*/% 09azA".charAt(pick(19))); break;
            case 2: b.setLength(p); break;
            default: b.insert(p, (char) pick(256)); break;
        }
        return b.toString();
    }

    private String lawText() {
        StringBuilder b = new StringBuilder();
        int n = pick(20) == 0 ? 13 : 1 + pick(4);
        for (int i = 0; i < n; i++) {
            if (i > 0) b.append(';');
            String verb = List.of("costs", "costs", "strikes", "worth", "bars").get(pick(5));
            b.append(verb);
            if (!verb.equals("bars")) b.append(' ').append(sum(false, 2));
            if (verb.equals("bars") || pick(2) == 0) b.append(" if ").append(test(false, 2));
        }
        return b.toString();
    }

    private String orderText() {
        StringBuilder b = new StringBuilder();
        int n = pick(20) == 0 ? 13 : 1 + pick(4);
        for (int i = 0; i < n; i++) {
            if (i > 0) b.append("; ");
            switch (pick(7)) {
                case 0: case 1: b.append("put ").append(pick(3) == 0 ? sum(true, 1) : "" + pick(12)).append(" at ").append(pick(2) == 0 ? "0" : pick(2) == 0 ? "length" : sum(true, 1)); break;
                case 2: case 3: b.append("cut ").append(pick(3) == 0 ? sum(true, 1) : "0"); break;
                case 4: b.append("turn ").append(pick(3) == 0 ? sum(true, 1) : "0").append(" to ").append(pick(3) == 0 ? sum(true, 1) : "" + pick(12)); break;
                default: b.append("pass"); break;
            }
            if (pick(4) == 0) b.append(" times ").append(near(1, pick(3) == 0 ? 20 : 3));
            if (pick(2) == 0) b.append(" if ").append(test(true, 2));
        }
        return b.toString();
    }

    private String test(boolean orders, int levels) {
        switch (levels == 0 ? 9 : pick(10)) {
            case 0: return test(orders, levels - 1) + " or " + test(orders, levels - 1);
            case 1: return test(orders, levels - 1) + " and " + test(orders, levels - 1);
            case 2: return "not " + test(orders, levels - 1);
            case 3: return "(" + test(orders, levels - 1) + ")";
            default: return sum(orders, levels) + "<>=".charAt(pick(3)) + sum(orders, levels);
        }
    }

    private String sum(boolean orders, int levels) {
        switch (levels == 0 ? 9 : pick(10)) {
            case 0: case 1: return sum(orders, levels - 1) + "+-*/%".charAt(pick(5)) + sum(orders, levels - 1);
            case 2: return "[" + sum(orders, levels - 1) + "]";
            case 3: return "1000*1000*" + sum(orders, levels - 1) + "*" + pick(1100);
            case 4: case 5: case 6: return word(orders);
            default: return pick(10) == 0 ? "" + pick(1003) : "" + pick(13);
        }
    }

    private String word(boolean orders) {
        if (!orders) return List.of("sign", "kind", "open", "person", "place", "length", "page", "mood", "done").get(pick(pick(20) == 0 ? 9 : 8));
        switch (pick(8)) {
            case 0: return "page";
            case 1: return "done";
            case 2: return "latest";
            case 3: return "length";
            case 4: return "loose";
            case 5: return "sign " + near(0, 19);
            case 6: return "deep " + near(0, 19);
            default: return pick(20) == 0 ? "mood" : "length";
        }
    }

    private void askState() {
        for (int what = -1; what <= 14; what++) check("count(" + what + ")", x.count(what), m.count(what));
        check("status()", x.status(), m.status);
        check("said()", x.said(), m.said());
        for (int p = -1; p <= m.w.row.size(); p++) {
            for (int what = -1; what <= 4; what++) check("at(" + p + ", " + what + ")", x.at(p, what), m.at(p, what));
        }
        if (pick(5) > 0) return;
        for (int what = -1; what <= 22; what++) check("drawn(" + what + ")", x.drawn(what), m.drawn(what));
        int a = near(0, 20);
        int b = near(0, 20);
        check("whole(" + a + ", " + b + ")", x.whole(a, b), m.whole(a, b));
        for (int what = -1; what <= 2; what++) check("run(" + what + ")", x.run(what), m.run(what));
        for (int p = -1; p <= m.w.row.size(); p++) check("fits(" + p + ")", x.fits(p), m.fits(p));
        int people = pick(3) == 0 ? near(0, 63) : m.said() & pick(64);
        for (int what = -1; what <= 4; what++) check("hide(" + people + ", " + what + ")", x.hide(people, what), m.hide(people, what));
    }

    private void askPaper() {
        if (pick(5) > 0) return;
        for (int what = -1; what <= 2; what++) check("mend(" + what + ")", x.mend(what), m.mend(what));
        for (int law : Set.of(-2, -1, 0, 1, 2, 6)) check("compare(" + law + ")", x.compare(law), m.compare(law));
        for (int what = -1; what <= m.w.row.size() + 1; what++) check("strike(" + what + ")", x.strike(what), m.strike(what));
        for (int what = -1; what <= 2; what++) check("game(" + what + ")", x.game(what), m.game(what));
        check("rank()", x.rank(), m.rank());
    }
}
