import java.util.ArrayList;
import java.util.Arrays;
import java.util.List;
import java.util.Set;
import java.util.TreeSet;

/**
 * The edge of promise 9 that every TOKEN stands on: at each place of the two grammars each TOKEN is tried, and either
 * goes on or is the FAULT. Behind it stands a byte that can go on nowhere, so that one of both is.
 */
final class TokenEdges {
    private static final String FAULT = "FAULT: the first TOKEN that can't go on there (the end's: the TEXT's length).";
    private static final String NOWHERE = "\1";

    private static final String VERBS = "costs strikes worth bars put cut turn pass if or and not at to times";
    private static final String WORDS = "sign kind open person place length page mood done latest loose deep";
    private static final String OTHERS = "x sig signs undo costsif a z";
    private static final String NUMBERS = "0 1 19 20 21 1000 1001 007 0001000 4294967297 18446744073709551617";

    private static final String TO_1000 = "0 1 19 20 21 1000 007 0001000";
    private static final String LAW_PART = TO_1000 + " [ sign kind open person place length page mood";
    private static final String ORDER_PART = TO_1000 + " [ page done latest length loose sign deep";
    private static final String SIGNS = "+ - * / %";

    private TokenEdges() { }

    static void all() {
        lawTokens();
        orderTokens();
        ends();
    }

    private static void lawTokens() {
        Edge.of(9, FAULT);
        goOn(false, "", "costs strikes worth bars");
        goOn(false, "bars;", "costs strikes worth bars");
        for (String verb : new String[] {"costs", "strikes", "worth"}) {
            goOn(false, verb, LAW_PART);
            goOn(false, verb + " 1", SIGNS + " if ;");
            goOn(false, verb + " mood", SIGNS + " if ;");
            goOn(false, verb + " [1]", SIGNS + " if ;");
            goOn(false, verb + " 1 + 2 * 3", SIGNS + " if ;");
            goOn(false, verb + " 1 if 1=1", SIGNS + " or and ;");
        }
        for (String sign : SIGNS.split(" ")) goOn(false, "costs 1" + sign, LAW_PART);
        goOn(false, "costs [", LAW_PART);
        goOn(false, "costs [1", SIGNS + " ]");
        goOn(false, "costs [[1]", SIGNS + " ]");
        goOn(false, "bars", "if ;");
        goOn(false, "bars if 1=1", SIGNS + " or and ;");
        tests(false, "bars if", LAW_PART);
    }

    private static void orderTokens() {
        Edge.of(9, FAULT);
        goOn(true, "", "put cut turn pass");
        goOn(true, "pass;", "put cut turn pass");
        for (String opening : new String[] {"put", "put 1 at", "cut", "turn", "turn 1 to"}) {
            goOn(true, opening, ORDER_PART);
            for (String sign : SIGNS.split(" ")) goOn(true, opening + " 1" + sign, ORDER_PART);
        }
        for (String part : new String[] {"1", "page", "sign 3", "deep 3", "[1]", "1+1"}) {
            goOn(true, "put " + part, SIGNS + " at");
            goOn(true, "put 1 at " + part, SIGNS + " times if ;");
            goOn(true, "cut " + part, SIGNS + " times if ;");
            goOn(true, "turn " + part, SIGNS + " to");
            goOn(true, "turn 1 to " + part, SIGNS + " times if ;");
        }
        goOn(true, "cut [sign 3", SIGNS + " ]");
        goOn(true, "pass", "times if ;");
        goOn(true, "pass times 1", "if ;");
        goOn(true, "cut 1 times 20", "if ;");
        goOn(true, "pass if 1=1", SIGNS + " or and ;");
        goOn(true, "pass times 1 if 1=1", SIGNS + " or and ;");
        goOn(true, "pass times", "1 19 20 007");
        goOn(true, "cut sign", "0 1 19 007");
        goOn(true, "cut deep", "0 1 19 007");
        tests(true, "pass if", ORDER_PART);
    }

    /** What goes on within a test, which both languages share but for their words. */
    private static void tests(boolean orders, String opening, String part) {
        for (String ahead : new String[] {"", " not", " not not", " (", " not (", " 1=1 or", " 1=1 and", " 1=1 and not", " (1=1 or"}) {
            goOn(orders, opening + ahead, part + " not (");
        }
        for (String compares : "< > =".split(" ")) {
            goOn(orders, opening + " 1" + compares, part);
            goOn(orders, opening + " not 1" + compares, part);
            goOn(orders, opening + " 1" + compares + "1", SIGNS + " or and ;");
            goOn(orders, opening + " (1" + compares + "1", SIGNS + " or and )");
        }
        goOn(orders, opening + " 1", SIGNS + " < > =");
        goOn(orders, opening + " not 1", SIGNS + " < > =");
        goOn(orders, opening + " [1]", SIGNS + " < > =");
        goOn(orders, opening + " [1", SIGNS + " ]");
        goOn(orders, opening + " (1", SIGNS + " < > =");
        goOn(orders, opening + " (1=1)", "or and ;");
        goOn(orders, opening + " ((1=1)", "or and )");
        goOn(orders, opening + " not (1=1)", "or and ;");
        goOn(orders, opening + " 1=1 or 1=1", SIGNS + " or and ;");
        goOn(orders, opening + " 1=1 and 1=1", SIGNS + " or and ;");
    }

    private static void goOn(boolean orders, String opening, String allowed) {
        Set<String> going = new TreeSet<>(Arrays.asList(allowed.split(" ")));
        for (String token : everyToken()) {
            int fault = faultOf(orders, opening + " " + token + " " + NOWHERE);
            int at = opening.length() + 1;
            Edge.is("fault() of " + token + " behind " + opening, fault, going.contains(token) ? at + token.length() + 1 : at);
        }
    }

    private static List<String> everyToken() {
        List<String> all = new ArrayList<>();
        for (String words : new String[] {VERBS, WORDS, OTHERS, NUMBERS}) all.addAll(Arrays.asList(words.split(" ")));
        for (char c = 0; c < 256; c++) {
            boolean single = c != ' ' && !(c >= 'a' && c <= 'z') && !(c >= '0' && c <= '9');
            if (single) all.add(String.valueOf(c));
        }
        return all;
    }

    private static int faultOf(boolean orders, String text) {
        BracketHouse x = new BracketHouse();
        Edge.is("what " + text + " is refused by", orders ? Due.orders(x, text) : Due.law(x, text), -6);
        return x.fault();
    }

    /** Where a text may end, and that all blanks behind it are part of its length. */
    private static void ends() {
        Edge.of(9, "(the end's: the TEXT's length).");
        String[] laws = {"costs", "costs 1+", "costs [", "costs [1", "costs 1 if", "bars if not", "bars if (", "bars if (1=1", "bars if 1", "bars if 1=", "bars if 1=1 or", "bars if 1=1 and", "bars;"};
        String[] orders = {"put", "put 1", "put 1 at", "cut", "cut sign", "cut deep", "turn", "turn 1", "turn 1 to", "pass times", "pass if", "pass times 1 if", "pass;"};
        for (String behind : new String[] {"", " ", "     "}) {
            for (String text : laws) Edge.is("fault() of " + text, faultOf(false, text + behind), text.length() + behind.length());
            for (String text : orders) Edge.is("fault() of " + text, faultOf(true, text + behind), text.length() + behind.length());
        }
    }
}
