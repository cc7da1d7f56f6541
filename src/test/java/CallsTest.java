import java.io.PrintWriter;
import java.io.StringWriter;
import java.util.ArrayList;
import java.util.HashMap;
import java.util.List;
import java.util.Map;
import java.util.Optional;
import java.util.Set;
import java.util.TreeSet;
import java.util.regex.Matcher;
import java.util.regex.Pattern;
import java.util.spi.ToolProvider;

/** Rules 4 and 11 of LANGUAGE.md, read off the compiled classes: what of the library is called, how deep calls go. */
public final class CallsTest {
    private static final String OWN = "NegotiatedWires";
    private static final int DEEPEST = 8;
    private static final Set<String> LIBRARY = Set.of("java/lang/Object.<init>", "java/lang/Integer.bitCount",
            "java/lang/Math.abs", "java/lang/String.charAt", "java/lang/String.length", "java/lang/System.arraycopy",
            "java/util/Arrays.fill", "java/lang/IllegalArgumentException.<init>",
            "java/util/NoSuchElementException.<init>");
    private static final Pattern METHOD = Pattern.compile("^  \\S.*?([\\w$]+)\\(.*\\).*;$");
    private static final Pattern CALL = Pattern.compile("invoke\\w+ .*// (?:Interface)?Method (\\S+?):");

    private final Map<String, Set<String>> calls = new HashMap<>();
    private final Map<String, List<String>> longest = new HashMap<>();

    private void read(Class<?> c, ToolProvider javap) {
        StringWriter out = new StringWriter();
        PrintWriter printer = new PrintWriter(out);
        String home = c.getProtectionDomain().getCodeSource().getLocation().getPath();
        javap.run(printer, printer, "-p", "-c", "-cp", home, c.getName());
        String from = "";
        for (String line : out.toString().split("\\R")) {
            Matcher method = METHOD.matcher(line);
            Matcher call = CALL.matcher(line);
            if (method.matches()) {
                String name = method.group(1).equals(c.getName()) ? "<init>" : method.group(1);
                from = c.getName() + "." + name;
                calls.putIfAbsent(from, new TreeSet<>());
            } else if (call.find() && !from.isEmpty()) {
                String to = call.group(1).replace("\"", "");
                calls.get(from).add(to.contains(".") ? to : c.getName() + "." + to);
            }
        }
    }

    /** The longest row of calls from a method on; one that stands open already is not followed once more. */
    private List<String> rowFrom(String method, List<String> open) {
        if (longest.containsKey(method)) {
            return longest.get(method);
        }
        List<String> best = List.of();
        open.add(method);
        for (String to : calls.getOrDefault(method, Set.of())) {
            if (to.startsWith(OWN) && !open.contains(to)) {
                List<String> row = rowFrom(to, open);
                best = row.size() > best.size() ? row : best;
            }
        }
        open.remove(open.size() - 1);
        List<String> row = new ArrayList<>(List.of(method));
        row.addAll(best);
        longest.put(method, row);
        return row;
    }

    private int faults() {
        int wrong = 0;
        for (Map.Entry<String, Set<String>> e : calls.entrySet()) {
            for (String to : e.getValue()) {
                if (!to.startsWith(OWN) && !LIBRARY.contains(to)) {
                    wrong++;
                    System.out.println(e.getKey() + " calls " + to);
                }
            }
            List<String> row = rowFrom(e.getKey(), new ArrayList<>());
            if (row.size() > DEEPEST) {
                wrong++;
                System.out.println("too deep: " + row);
            }
        }
        return wrong;
    }

    public static void main(String[] args) {
        Optional<ToolProvider> javap = ToolProvider.findFirst("javap");
        if (javap.isEmpty()) {
            System.out.println("CallsTest: there is no javap here, so nothing was looked at");
            return;
        }
        CallsTest test = new CallsTest();
        test.read(NegotiatedWires.class, javap.get());
        for (Class<?> c : NegotiatedWires.class.getDeclaredClasses()) {
            test.read(c, javap.get());
        }
        int wrong = test.faults();
        // Far fewer methods than there are would mean that javap's lines were not understood.
        boolean read = test.calls.size() >= 100 && test.calls.get(OWN + ".work") != null
                && !test.calls.get(OWN + ".work").isEmpty();
        System.out.println("CallsTest: " + test.calls.size() + " methods, " + wrong + " not as due"
                + (read ? "" : ", but javap was not understood"));
        System.exit(wrong == 0 && read ? 0 : 1);
    }
}
