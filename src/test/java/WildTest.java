import java.lang.reflect.InvocationTargetException;
import java.lang.reflect.Method;
import java.lang.reflect.Modifier;
import java.util.ArrayList;
import java.util.Comparator;
import java.util.List;
import java.util.Random;

/** No call ever throws: all calls in any order, with any numbers, on rows that are often full. */
public final class WildTest {
    private static final int[] EDGES = {-1, 0, 1, 2, 3, 5, 6, 11, 12, 13, 19, 20, 21, 22, 23, 60, 61, 63, 64, 400, 999, 1000, 1000000, 1000001,
        Integer.MIN_VALUE, Integer.MIN_VALUE + 1, Integer.MAX_VALUE, Integer.MAX_VALUE - 1};
    private static final String PIECES =
        "put |cut |turn |pass|costs |strikes |worth |bars|; |;| if | or | and |not |(|)|[|]|<|>|=|+|-|*|/|%|0|1|7|19|20|1000|sign |deep |loose|length|page|done|latest|mood|kind| at | to | times |x|\0";

    public static void main(String[] args) throws IllegalAccessException {
        List<Method> calls = new ArrayList<>();
        for (Method m : BracketHouse.class.getDeclaredMethods()) if (Modifier.isPublic(m.getModifiers())) calls.add(m);
        calls.sort(Comparator.comparing(Method::getName));
        String[] pieces = PIECES.split("\\|");
        for (int seed = 0; seed < 1500; seed++) {
            Random random = new Random(seed);
            BracketHouse x = new BracketHouse();
            for (int i = 0; i < 512; i++) {
                if (random.nextInt(6) == 0) feedPieces(x, pieces, random);
                Method m = calls.get(random.nextInt(calls.size()));
                if (x.count(0) < 15 && random.nextBoolean()) x.put(random.nextInt(12), random.nextInt(x.count(0) + 1));
                call(x, m, random, seed);
            }
        }
        Due.close();
    }

    private static void feedPieces(BracketHouse x, String[] pieces, Random random) {
        StringBuilder b = new StringBuilder();
        int n = random.nextInt(random.nextInt(20) == 0 ? 150 : 8);
        for (int i = 0; i < n; i++) b.append(pieces[random.nextInt(pieces.length)]);
        x.end(0);
        Due.feed(x, b.substring(0, Math.min(400, b.length())));
        if (random.nextBoolean()) x.law();
    }

    private static void call(BracketHouse x, Method m, Random random, int seed) throws IllegalAccessException {
        Object[] with = new Object[m.getParameterCount()];
        for (int i = 0; i < with.length; i++) {
            int n = random.nextInt(3) == 0 ? EDGES[random.nextInt(EDGES.length)] : random.nextInt(14);
            if (m.getParameterTypes()[i] == long.class) with[i] = random.nextInt(5) == 0 ? random.nextLong() : (long) n;
            else with[i] = n;
        }
        try {
            m.invoke(x, with);
            Due.is("throws", 0, 0);
        } catch (InvocationTargetException e) {
            System.out.println("seed " + seed + ", " + m.getName() + java.util.Arrays.toString(with) + ": " + e.getCause());
            Due.is("throws", 1, 0);
        }
    }
}
