import java.io.IOException;
import java.lang.reflect.Constructor;
import java.lang.reflect.Field;
import java.lang.reflect.Method;
import java.lang.reflect.Modifier;
import java.nio.file.Files;
import java.nio.file.Path;
import java.util.ArrayList;
import java.util.List;
import java.util.Set;
import java.util.TreeSet;
import java.util.regex.Matcher;
import java.util.regex.Pattern;

/** What can be looked at of ../shared/LANGUAGE.md and of the document's public face. */
public final class LanguageTest {
    public static void main(String[] args) throws IOException {
        String source = Files.readString(Path.of(args.length > 0 ? args[0] : "src/main/java/BracketHouse.java"));
        List<String> printed = printedFace(Files.readString(Path.of(args.length > 1 ? args[1] : "../shared/DOC.md")));
        asPrinted(source, printed);
        face(printed);
        insides();
        forbidden(code(source));
        methods(source);
        Due.close();
    }

    /** The lines of the document's public face, from the class on. */
    private static List<String> printedFace(String document) {
        Matcher face = Pattern.compile("## The public face\\s+```java\\n(.*?)\\n```", Pattern.DOTALL).matcher(document);
        Due.is("the document prints a face", face.find() ? 1 : 0, 1);
        return List.of(face.group(1).split("\n"));
    }

    /** What is public stands in the program as the document prints it, names of parameters and all, in its order. */
    private static void asPrinted(String source, List<String> printed) {
        List<String> got = new ArrayList<>();
        for (String line : source.split("\n")) {
            if (!line.matches("( {4})?public .*")) continue;
            got.add(line.startsWith(" ") ? line.replaceFirst(" \\{$", ";") : line);
        }
        List<String> want = printed.subList(0, printed.size() - 1);
        Due.is("so many lines of the face", got.size(), want.size());
        for (String line : want) Due.is("the program has " + line.trim(), got.contains(line) ? 1 : 0, 1);
        Due.is("in the order of the document", got.equals(want) ? 1 : 0, 1);
    }

    /** A printed method as its types alone: "int terms(int,int)". */
    private static String typesOf(String line) {
        return line.trim().replaceFirst("^public ", "").replaceFirst(";$", "").replaceAll("(int|long) \\w+(?=[,)])", "$1").replace(", ", ",");
    }

    private static void face(List<String> printed) {
        Set<String> want = new TreeSet<>();
        for (String line : printed) if (line.matches(" {4}public (int|long) .*")) want.add(typesOf(line));
        Due.is("so many methods are printed", want.size(), 36);
        Set<String> got = new TreeSet<>();
        Set<String> names = new TreeSet<>();
        for (Method m : BracketHouse.class.getDeclaredMethods()) {
            if (Modifier.isPrivate(m.getModifiers())) continue;
            List<String> types = new ArrayList<>();
            for (Class<?> c : m.getParameterTypes()) types.add(c.getName());
            got.add(m.getReturnType().getName() + " " + m.getName() + "(" + String.join(",", types) + ")");
            names.add(m.getName());
            Due.is(m.getName() + " is public", Modifier.isPublic(m.getModifiers()) ? 1 : 0, 1);
        }
        if (!got.equals(want)) System.out.println("the face is " + got);
        Due.is("the face is the document's", got.equals(want) ? 1 : 0, 1);
        Set<String> fields = new TreeSet<>();
        for (Field f : BracketHouse.class.getDeclaredFields()) if (!Modifier.isPrivate(f.getModifiers())) fields.add(f.getName());
        Due.is("the constants", fields.equals(Set.of("NONE", "NOTHING")) ? 1 : 0, 1);
        Constructor<?>[] made = BracketHouse.class.getDeclaredConstructors();
        Due.is("one constructor", made.length, 1);
        Due.is("without parameters", made[0].getParameterCount(), 0);
        Due.is("public and final", BracketHouse.class.getModifiers(), Modifier.PUBLIC | Modifier.FINAL);
        List<Class<?>> all = new ArrayList<>(List.of(BracketHouse.class.getDeclaredClasses()));
        all.add(BracketHouse.class);
        for (Class<?> c : all) {
            for (Method m : c.getDeclaredMethods()) {
                boolean shares = names.contains(m.getName()) && !Modifier.isPublic(m.getModifiers());
                Due.is(c.getName() + "." + m.getName() + " bears a public one's name", shares ? 1 : 0, 0);
            }
        }
    }

    private static void insides() {
        Class<?>[] inside = BracketHouse.class.getDeclaredClasses();
        Due.is("some twelve classes", inside.length <= 12 ? 1 : 0, 1);
        List<Class<?>> all = new ArrayList<>(List.of(inside));
        for (Class<?> c : inside) Due.is(c.getName() + " is static", Modifier.isStatic(c.getModifiers()) ? 1 : 0, 1);
        all.add(BracketHouse.class);
        for (Class<?> c : all) {
            int fields = 0;
            for (Field f : c.getDeclaredFields()) {
                boolean isStatic = Modifier.isStatic(f.getModifiers());
                if (!isStatic) fields++;
                Due.is(c.getName() + "." + f.getName() + " is final if static", isStatic && !Modifier.isFinal(f.getModifiers()) ? 1 : 0, 0);
            }
            Due.is(c.getName() + " has some twenty fields", fields <= 20 ? 1 : 0, 1);
            for (Method m : c.getDeclaredMethods()) Due.is(m.getName() + " has seven parameters", m.getParameterCount() <= 7 ? 1 : 0, 1);
        }
    }

    /** The source without comments, texts and characters. */
    private static String code(String source) {
        return Pattern.compile("/\\*.*?\\*/|//[^\n]*|\"(\\\\.|[^\"\\\\])*\"|'(\\\\.|[^'\\\\])'", Pattern.DOTALL).matcher(source).replaceAll(" ");
    }

    private static void forbidden(String code) {
        String[] words = {"throw", "throws", "try", "catch", "synchronized", "assert", "package", "hashCode", "toString", "Random", "Thread", "System\\.(?!arraycopy)",
            "Exact", "Object", "Map", "Set", "java\\.(?!util\\.(Arrays|ArrayList|List);)", "var", "native", "volatile", "transient", "protected"};
        for (String word : words) {
            Matcher m = Pattern.compile("\\b" + word + "\\b|" + (word.equals("Exact") ? "Exact\\(" : "(?!)")).matcher(code);
            Due.is("the source has " + word, m.find() ? 1 : 0, 0);
        }
        Due.is("the source has ->", code.contains("->") ? 1 : 0, 0);
        Due.is("the source has ::", code.contains("::") ? 1 : 0, 0);
        Due.is("the source has static {", Pattern.compile("static\\s*\\{").matcher(code).find() ? 1 : 0, 0);
        Due.is("the source has while (true)", Pattern.compile("while\\s*\\(true\\)|for\\s*\\(\\s*;").matcher(code).find() ? 1 : 0, 0);
        for (int i = 0; i < code.length(); i++) if (code.charAt(i) > 126) Due.is("a sign beyond 126 at " + i, code.charAt(i), 126);
    }

    /** Methods stay short: some sixty lines. */
    private static void methods(String source) {
        String[] lines = source.split("\n");
        int start = -1;
        String indent = "";
        for (int i = 0; i < lines.length; i++) {
            if (start < 0 && lines[i].matches(" {4,8}[a-zA-Z].*\\) \\{") && !lines[i].contains(" class ")) {
                start = i;
                indent = lines[i].substring(0, lines[i].indexOf(lines[i].trim()));
            } else if (start >= 0 && lines[i].equals(indent + "}")) {
                Due.is(lines[start].trim() + " has some sixty lines", i - start < 60 ? 1 : 0, 1);
                start = -1;
            }
        }
    }
}
