import java.io.IOException;
import java.lang.reflect.Constructor;
import java.lang.reflect.Field;
import java.lang.reflect.Method;
import java.lang.reflect.Modifier;
import java.nio.file.Files;
import java.nio.file.Path;
import java.util.ArrayList;
import java.util.List;
import java.util.Set;
import java.util.TreeSet;
import java.util.regex.Matcher;
import java.util.regex.Pattern;

/** The public face as the document has it, and those rules of LANGUAGE.md that can be read off the source. */
public final class FaceTest {
    private static final String FACE = """
            public int feed(int,int,int,int,int)
            public int board(int) IllegalArgumentException
            public int law(int) IllegalArgumentException
            public int work(int) IllegalArgumentException
            public int book(int) IllegalArgumentException
            public int fault()
            public int undo()
            public int told(int) IllegalArgumentException
            public int net(int,int) NoSuchElementException IllegalArgumentException
            public int place(int,int,int) NoSuchElementException IllegalArgumentException
            public int cost(int,int,int) NoSuchElementException
            public int would(int,int,int,int,int,int,int,int) IllegalArgumentException
            public int parent(int,int,int) NoSuchElementException
            public int dist(int,int,int) NoSuchElementException
            public int spared(int,int,int) NoSuchElementException
            public int settled()
            public int jam(int) NoSuchElementException
            public int ahead(int,int) IllegalArgumentException
            public int fewest(int) NoSuchElementException
            public int tree(int,int) NoSuchElementException
            public int meet(int,int) NoSuchElementException
            public int dear(int) NoSuchElementException
            public int shed(int) NoSuchElementException
            public int fits(int) IllegalArgumentException
            public int look(int) IllegalArgumentException
            public int crowd(int) IllegalArgumentException
            public int tight(int) IllegalArgumentException
            public int season(int,int,int,int) IllegalArgumentException
            public int span(int,int,int,int,int,int) NoSuchElementException IllegalArgumentException
            public int image()
            public int restore()
            public int status(int)
            public int count(int)
            """;
    private static final Path SOURCE = Path.of("src/main/java/NegotiatedWires.java");
    private static final List<String> wrong = new ArrayList<>();

    private static void need(boolean fine, String what) {
        if (!fine) {
            wrong.add(what);
        }
    }

    private static String line(Method m) {
        StringBuilder s = new StringBuilder(Modifier.toString(m.getModifiers()));
        s.append(' ').append(m.getReturnType().getSimpleName()).append(' ').append(m.getName()).append('(');
        for (int i = 0; i < m.getParameterCount(); i++) {
            s.append(i > 0 ? "," : "").append(m.getParameterTypes()[i].getSimpleName());
        }
        s.append(')');
        for (Class<?> e : m.getExceptionTypes()) {
            s.append(' ').append(e.getSimpleName());
        }
        return s.toString();
    }

    private static void face() {
        Class<?> face = NegotiatedWires.class;
        need(Modifier.isPublic(face.getModifiers()) && Modifier.isFinal(face.getModifiers()), "public and final");
        Set<String> due = new TreeSet<>(FACE.lines().toList());
        Set<String> names = new TreeSet<>();
        Set<String> got = new TreeSet<>();
        for (Method m : face.getDeclaredMethods()) {
            if (!Modifier.isPrivate(m.getModifiers())) {
                got.add(line(m));
                names.add(m.getName());
            }
        }
        need(got.equals(due), "the methods are " + got);
        for (Constructor<?> c : face.getDeclaredConstructors()) {
            need(Modifier.isPublic(c.getModifiers()) && c.getParameterCount() == 0, "constructor " + c);
        }
        for (Field f : face.getDeclaredFields()) {
            need(Modifier.isPrivate(f.getModifiers()) || f.getName().equals("NONE"), "field " + f);
        }
        privateNames(face, names);
        need(face.getDeclaredClasses().length <= 12, "twelve classes");
        for (Class<?> c : face.getDeclaredClasses()) {
            need(Modifier.isStatic(c.getModifiers()), "static " + c);
            need(!Modifier.isPublic(c.getModifiers()) && !Modifier.isProtected(c.getModifiers()), "private " + c);
            privateNames(c, names);
            fields(c);
        }
        fields(face);
    }

    private static void privateNames(Class<?> c, Set<String> names) {
        for (Method m : c.getDeclaredMethods()) {
            boolean ofFace = c == NegotiatedWires.class && Modifier.isPublic(m.getModifiers());
            need(ofFace || !names.contains(m.getName()), m + " bears the name of a public one");
            need(m.getParameterCount() <= 7 || m.getName().equals("would"), m + " has too many parameters");
        }
    }

    private static void fields(Class<?> c) {
        int own = 0;
        for (Field f : c.getDeclaredFields()) {
            if (Modifier.isStatic(f.getModifiers())) {
                need(Modifier.isFinal(f.getModifiers()), f + " is not final");
            } else {
                own++;
            }
        }
        need(own <= 20, c + " has " + own + " fields");
    }

    private static void source() throws IOException {
        String text = Files.readString(SOURCE).replaceAll("(?s)/\\*.*?\\*/", "").replaceAll("//[^\n]*", "")
                .replaceAll("'.'", "' '").replaceAll("\"[^\"]*\"", "\"\"");
        String[] barred = {"->", "::", "Exact", "\\b(try|catch|finally|synchronized|assert|native|package|var|yield)\\b",
            "\\b(double|float|Object|Map|Set|Random|System\\.(?!arraycopy))\\b", "\\bstatic\\s*\\{", "instanceof",
            "\\b(hashCode|toString|getClass|getMessage)\\b", "\"\\s*\\+|\\+\\s*\"",
            // Rule 4 lists functions of the library, none of its constants.
            "\\b(Integer|Long|Math|Short|Byte|Character)\\.[A-Z]"};
        for (String b : barred) {
            Matcher m = Pattern.compile(b).matcher(text);
            need(!m.find(), "the source has " + b);
        }
        Matcher imports = Pattern.compile("import ([\\w.]+);").matcher(text);
        while (imports.find()) {
            need(Set.of("java.util.Arrays", "java.util.NoSuchElementException").contains(imports.group(1)), imports.group());
        }
        Matcher thrown = Pattern.compile("throw ([^;]*);").matcher(text);
        while (thrown.find()) {
            need(thrown.group(1).matches("new (IllegalArgument|NoSuchElement)Exception\\(\"\"\\)"), thrown.group());
        }
        methodLengths(text);
    }

    private static void methodLengths(String text) {
        int from = -1;
        String[] lines = text.split("\n");
        for (int i = 0; i < lines.length; i++) {
            boolean opens = lines[i].matches(" {4}( {4})?[^ ].*\\{") && !lines[i].contains(" class ");
            from = opens ? i : from;
            if (lines[i].matches(" {4}( {4})?\\}") && from >= 0) {
                need(i - from <= 60, "too long: " + lines[from]);
                from = -1;
            }
        }
    }

    public static void main(String[] args) throws IOException {
        face();
        source();
        wrong.forEach(System.out::println);
        System.out.println("FaceTest: " + wrong.size() + " not as due");
        System.exit(wrong.isEmpty() ? 0 : 1);
    }
}
