import java.io.PrintWriter;
import java.io.StringWriter;
import java.util.ArrayList;
import java.util.Collection;
import java.util.HashMap;
import java.util.HashSet;
import java.util.List;
import java.util.Map;
import java.util.Optional;
import java.util.Set;
import java.util.TreeMap;
import java.util.TreeSet;
import java.util.regex.Matcher;
import java.util.regex.Pattern;
import java.util.spi.ToolProvider;

/**
 * LANGUAGE.md, rule 11: "calls that are no recursion go at most eight deep". The calls are read
 * from the compiled class; methods that call one another in a circle count as one.
 */
public final class CallsTest {
    private static final int MOST_DEEP = 8;
    private static final Pattern CLASS_HEAD = Pattern.compile("(?:\\w+ )*class (\\S+)(?: \\{.*)?");
    private static final Pattern METHOD_HEAD = Pattern.compile("  \\S.*?([\\w$.]+)\\(.*\\);");
    private static final Pattern CALL = Pattern.compile(".*\\binvoke\\w+ .*// (?:Interface)?Method (\\S+?):.*");

    private static final Due due = new Due();

    private final Map<String, Set<String>> calls = new TreeMap<>();
    private final Map<String, Set<String>> reached = new HashMap<>();
    private final Map<String, List<String>> longest = new HashMap<>();

    public static void main(String[] args) {
        Optional<ToolProvider> javap = ToolProvider.findFirst("javap");
        if (javap.isEmpty()) {
            System.out.println("there is no javap here: the calls are not counted");
            return;
        }
        CallsTest test = new CallsTest();
        test.read(disassembled(javap.get()));
        due.is("the calls are found", test.calls.size() > 100, true);
        for (String method : test.calls.keySet()) {
            List<String> chain = test.chainFrom(method);
            due.is(method + " goes at most " + MOST_DEEP + " deep: " + chain, chain.size() <= MOST_DEEP, true);
        }
        due.end();
    }

    private static String disassembled(ToolProvider javap) {
        List<String> words = new ArrayList<>(List.of("-c", "-p", "-cp", System.getProperty("java.class.path"), "BellRibbons"));
        for (Class<?> c : BellRibbons.class.getDeclaredClasses()) {
            words.add(c.getName());
        }
        StringWriter out = new StringWriter();
        PrintWriter to = new PrintWriter(out);
        javap.run(to, to, words.toArray(new String[0]));
        to.flush();
        return out.toString();
    }

    private void read(String text) {
        String in = "";
        Set<String> called = new TreeSet<>();
        for (String line : text.split("\\R")) {
            Matcher head = CLASS_HEAD.matcher(line);
            Matcher method = METHOD_HEAD.matcher(line);
            Matcher call = CALL.matcher(line);
            if (head.matches()) {
                in = head.group(1);
            } else if (call.matches()) {
                String name = call.group(1).replace("\"", "");
                called.add(name.contains(".") ? name : in + "." + name);
            } else if (method.matches()) {
                String name = method.group(1).equals(in) ? "<init>" : method.group(1);
                called = calls.computeIfAbsent(in + "." + name, n -> new TreeSet<>());
            }
        }
    }

    private Collection<String> calledBy(String method) {
        return calls.getOrDefault(method, Set.of());
    }

    private Set<String> reachedFrom(String method) {
        Set<String> known = reached.get(method);
        if (known == null) {
            known = new HashSet<>();
            List<String> open = new ArrayList<>(calledBy(method));
            while (!open.isEmpty()) {
                String next = open.remove(open.size() - 1);
                if (known.add(next)) {
                    open.addAll(calledBy(next));
                }
            }
            reached.put(method, known);
        }
        return known;
    }

    /** The methods that call one another in a circle with this one, and itself. */
    private Set<String> circleOf(String method) {
        Set<String> circle = new TreeSet<>(Set.of(method));
        for (String other : reachedFrom(method)) {
            if (reachedFrom(other).contains(method)) {
                circle.add(other);
            }
        }
        return circle;
    }

    private List<String> chainFrom(String method) {
        Set<String> circle = circleOf(method);
        String name = circle.toString();
        List<String> known = longest.get(name);
        if (known == null) {
            List<String> rest = List.of();
            for (String one : circle) {
                for (String next : calledBy(one)) {
                    List<String> chain = circle.contains(next) ? List.of() : chainFrom(next);
                    rest = chain.size() > rest.size() ? chain : rest;
                }
            }
            known = new ArrayList<>(List.of(name));
            known.addAll(rest);
            longest.put(name, known);
        }
        return known;
    }
}
