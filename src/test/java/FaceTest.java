import java.io.IOException;
import java.lang.reflect.Constructor;
import java.lang.reflect.Field;
import java.lang.reflect.Method;
import java.lang.reflect.Modifier;
import java.nio.file.Files;
import java.nio.file.Path;
import java.util.ArrayList;
import java.util.Arrays;
import java.util.List;
import java.util.Set;
import java.util.TreeSet;
import java.util.regex.Matcher;
import java.util.regex.Pattern;

/** The document's face, and the rules of LANGUAGE.md that can be seen from outside or in the text. */
public final class FaceTest {
    private static final String[] FACE = {
        "int rod(int,int)", "boolean stiff(int,int)", "boolean seen(int,boolean)", "boolean wet(int,boolean)",
        "int white(int,int,int,int)", "int red(int,int,int,int,int)", "boolean wind(int)",
        "int feed(int,int,int,int,int)", "int law(int)", "int rodIs(int,int)", "int ribbon(int,int)",
        "int balance(int)", "boolean move(int,int,int)", "boolean fall(int)", "int pay(int,int,int,int)",
        "int level(int,int)", "int falseBy(int)", "long suspects()", "int gust(int,int)",
        "int fraud(int,int,int,int)", "int owes(int,int)", "int ring(int)", "int clear()",
        "int run(int,int,int)", "int order(int,int,int)", "boolean seed(int)", "int draw(int)", "int keep()",
        "boolean undo()", "int check(int)", "int count(int)"};
    private static final String[] FORBIDDEN_WORDS = {
        "throw", "throws", "try", "catch", "synchronized", "assert", "import", "package", "protected", "volatile",
        "Object", "Exception", "Thread", "Random", "System\\.(?!arraycopy)", "Math\\.(?!max|min|abs)", "equals",
        "hashCode", "toString", "->", "::", "goto", "native"};

    private static final Due due = new Due();

    public static void main(String[] args) throws IOException {
        face();
        members();
        text(Files.readString(Path.of(args[0], "src", "main", "java", "BellRibbons.java")));
        due.end();
    }

    private static void face() {
        Class<?> c = BellRibbons.class;
        due.is("public and final", Modifier.isPublic(c.getModifiers()) && Modifier.isFinal(c.getModifiers()), true);
        Set<String> found = new TreeSet<>();
        for (Method m : c.getDeclaredMethods()) {
            if (!Modifier.isPrivate(m.getModifiers()) && !m.isSynthetic()) {
                StringBuilder signature = new StringBuilder(m.getReturnType() + " " + m.getName() + "(");
                for (Class<?> p : m.getParameterTypes()) {
                    signature.append(signature.charAt(signature.length() - 1) == '(' ? "" : ",").append(p);
                }
                found.add(signature + ")");
                due.is(m + " is public and no static one", m.getModifiers() == Modifier.PUBLIC, true);
            }
        }
        due.is("the face is " + found, found.equals(new TreeSet<>(Arrays.asList(FACE))), true);
        List<String> fields = new ArrayList<>();
        for (Field f : c.getDeclaredFields()) {
            if (!Modifier.isPrivate(f.getModifiers())) {
                fields.add(Modifier.toString(f.getModifiers()) + " " + f.getType() + " " + f.getName());
            }
        }
        due.is("the constants are " + fields, fields.equals(List.of("public static final int NONE")), true);
        Constructor<?>[] made = c.getDeclaredConstructors();
        due.is("one constructor", made.length, 1);
        due.is("public, without arguments", Modifier.isPublic(made[0].getModifiers()) ? made[0].getParameterCount() : 1, 0);
    }

    private static void members() {
        Set<String> names = new TreeSet<>();
        for (String signature : FACE) {
            names.add(signature.substring(signature.indexOf(' ') + 1, signature.indexOf('(')));
        }
        List<Class<?>> all = new ArrayList<>(Arrays.asList(BellRibbons.class.getDeclaredClasses()));
        due.is("at most twelve classes", all.size() + 1 <= 12, true);
        all.add(BellRibbons.class);
        for (Class<?> c : all) {
            int own = 0;
            for (Field f : c.getDeclaredFields()) {
                boolean isStatic = Modifier.isStatic(f.getModifiers());
                own += isStatic ? 0 : 1;
                due.is(f + " is static and not final", isStatic && !Modifier.isFinal(f.getModifiers()), false);
            }
            due.is(c + " has at most twenty fields", own <= 20, true);
            for (Method m : c.getDeclaredMethods()) {
                boolean isFace = c == BellRibbons.class && Modifier.isPublic(m.getModifiers());
                due.is(m + " bears a name of the face", !isFace && names.contains(m.getName()), false);
                due.is(m + " takes at most seven", m.getParameterCount() <= 7, true);
            }
            if (c != BellRibbons.class) {
                due.is(c + " is static", Modifier.isStatic(c.getModifiers()), true);
                due.is(c + " is private", Modifier.isPrivate(c.getModifiers()), true);
            }
        }
    }

    private static void text(String source) {
        String code = source.replaceAll("(?s)/\\*.*?\\*/", "").replaceAll("//[^\n]*", "");
        for (String word : FORBIDDEN_WORDS) {
            boolean isWord = Character.isLetter(word.charAt(0));
            Matcher found = Pattern.compile(isWord ? "\\b" + word + (word.endsWith(")") ? "" : "\\b") : word).matcher(code);
            due.is("the text has no " + word, found.find(), false);
        }
        for (char c : source.toCharArray()) {
            if (c > 126) {
                due.is("a sign above 126", c, 0);
            }
        }
        methodsAreShort(source.split("\n"));
    }

    /** A method's head and its last bracket stand equally far from the left. */
    private static void methodsAreShort(String[] lines) {
        Pattern head = Pattern.compile("( +)[a-zA-Z].*\\) \\{");
        Pattern other = Pattern.compile(" +(if|for|while|switch|else|do)\\b.*");
        for (int k = 0; k < lines.length; k++) {
            Matcher m = head.matcher(lines[k]);
            if (m.matches() && !other.matcher(lines[k]).matches()) {
                int end = k;
                while (!lines[end].equals(m.group(1) + "}")) {
                    end++;
                }
                due.is(lines[k].trim() + " has " + (end - k) + " lines", end - k <= 60, true);
            }
        }
    }
}
