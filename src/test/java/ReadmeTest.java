import java.io.IOException;
import java.lang.reflect.Method;
import java.lang.reflect.Modifier;
import java.nio.file.Files;
import java.nio.file.Path;

/**
 * What README.md says: each of its Java examples stands here line by line, so that it is known to
 * compile, and answers what is written beside it; each call and each test of the project is named.
 */
public final class ReadmeTest {
    private static final Due due = new Due();

    public static void main(String[] args) throws IOException {
        String readme = Files.readString(Path.of(args[0], "README.md"));
        Path tests = Path.of(args[0], "src", "test", "java");
        examplesStandHere(readme, Files.readString(tests.resolve("ReadmeTest.java")));
        callsAreNamed(readme);
        testsAreNamed(readme, tests);
        example();
        due.end();
    }

    private static String withoutMargins(String text) {
        StringBuilder lines = new StringBuilder("\n");
        for (String line : text.split("\\R")) {
            lines.append(line.strip()).append('\n');
        }
        return lines.toString();
    }

    private static void examplesStandHere(String readme, String source) {
        String[] parts = readme.split("```");
        int found = 0;
        for (int k = 1; k < parts.length; k += 2) {
            if (parts[k].startsWith("java\n")) {
                String block = parts[k].substring("java\n".length());
                due.is("this stands in ReadmeTest: " + block, withoutMargins(source).contains(withoutMargins(block)), true);
                found++;
            }
        }
        due.is("examples found", found, 2);
    }

    private static void callsAreNamed(String readme) {
        for (Method m : BellRibbons.class.getDeclaredMethods()) {
            if (Modifier.isPublic(m.getModifiers())) {
                due.is("README.md names " + m.getName(), readme.contains("`" + m.getName() + "("), true);
            }
        }
    }

    private static void testsAreNamed(String readme, Path tests) {
        for (String file : tests.toFile().list()) {
            if (file.endsWith("Test.java")) {
                String name = file.substring(0, file.length() - ".java".length());
                due.is("README.md names " + name, readme.contains("`" + name + "`"), true);
            }
        }
    }

    static int tellLaw(BellRibbons bank, String text) {
        int[] five = new int[5];
        for (int k = 0; k < text.length() || k % 20 != 0; k++) {
            int sign = k < text.length() ? text.charAt(k) : 0;
            five[k % 20 / 4] = five[k % 20 / 4] << 8 | sign;
            if (k % 20 == 19) {
                bank.feed(five[0], five[1], five[2], five[3], five[4]);
            }
        }
        return bank.law(text.length());
    }

    private static void example() {
        BellRibbons bank = new BellRibbons();
        int left = bank.rod(0, -4);              // 1: a rod on rod 0, at arm -4
        int one = bank.white(left, 2, 10, 0);    // 0: a white ribbon, 10 long, of person 0
        int two = bank.white(0, 3, 10, 1);       // 1: another one, of person 1
        int debt = bank.red(0, 1, 4, 0, 1);      // 2: person 0 owes person 1 a length of 4
        int lean = bank.rodIs(0, 2);             // -6: how rod 0 leans
        int others = bank.pay(0, 1, 3, 2);       // 1: 3 is paid, and one rod leans otherwise
        int balance = bank.balance(0);           // 3: 7 that it has, less 4 that it owes

        int clauses = tellLaw(bank, "gl*2(w=1);pv(c=0)");  // 2: twice as heavy in the rain; wind takes white
        boolean isWet = bank.wet(left, true);    // true
        boolean isWind = bank.wind(-3);          // true
        int moment = bank.rodIs(0, 1);           // -16: 3 * 13 + 1 * 4 - 4 * (2 * 7), and -3 by the wind
        int fault = tellLaw(bank, "gl*2");       // -1004: fault 1 at place 4, the law before stays

        due.is("left", left, 1);
        due.is("one", one, 0);
        due.is("two", two, 1);
        due.is("debt", debt, 2);
        due.is("lean", lean, -6);
        due.is("others", others, 1);
        due.is("balance", balance, 3);
        due.is("clauses", clauses, 2);
        due.is("isWet", isWet, true);
        due.is("isWind", isWind, true);
        due.is("moment", moment, -16);
        due.is("fault", fault, -1004);
        due.is("the law before stays", bank.rodIs(0, 1), -16);
    }
}
