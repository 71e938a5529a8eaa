import java.io.IOException;
import java.nio.file.Files;
import java.nio.file.Path;
import java.util.Map;
import java.util.Set;
import java.util.TreeMap;
import java.util.TreeSet;
import java.util.regex.Matcher;
import java.util.regex.Pattern;

/** The rules of ../shared/LANGUAGE.md that can be seen in the program's text; FaceTest has those that can be seen from outside. */
public final class LanguageTest {
    private static final Path PROGRAM = Path.of("src/main/java/EnclaveWarden.java");
    private static final Set<String> OWN_CLASSES = Set.of("EnclaveWarden", "Core", "EnclaveThread", "Enclave");
    private static final Pattern METHOD = Pattern.compile("(?m)^ +(?:public|private)[ \\w\\[\\]]* (\\w+)\\(([^)]*)\\) \\{$");
    private static final Pattern CLASS = Pattern.compile("(?m)^( *)(?:public|private) (?:static )?final class (\\w+) \\{$");
    private static final Pattern FIELD = Pattern.compile("(?m)^ +private (?:final )?[\\w\\[\\]]+ \\w+;$");
    private static final Pattern CALL = Pattern.compile("\\b(\\w+)\\(");

    /** The bodies of the methods and constructors, by their names. */
    private static final Map<String, String> BODIES = new TreeMap<>();

    public static void main(String[] args) throws IOException {
        Due due = new Due();
        String whole = Files.readString(PROGRAM);
        String text = whole.replaceAll("(?s)/\\*.*?\\*/", "").replaceAll("//[^\n]*", "");
        forbiddenWords(due, text);
        library(due, text);
        classes(due, text);
        staticFields(due, text);
        methods(due, text);
        loops(due, text);
        objectsAreMadeInConstructors(due);
        depth(due);
        due.yes("the file holds characters 0 to 127 alone", whole.chars().allMatch(c -> c < 128));
        due.end();
    }

    private static void forbiddenWords(Due due, String text) {
        String[] words = {"throw", "throws", "try", "catch", "synchronized", "assert", "import", "package", "native", "volatile",
            "transient", "extends", "implements", "interface", "protected", "while", "do", "equals", "hashCode", "toString"};
        for (String word : words) {
            due.no(word, Pattern.compile("\\b" + word + "\\b").matcher(text).find());
        }
        String[] signs = {"->", "::", "\"", "[][]", "static {", "@", "...", "}()", "() {}"};
        for (String sign : signs) {
            due.no(sign, text.contains(sign));
        }
    }

    // The program needs nothing of the library, so that rule 4 cannot be broken.
    private static void library(Due due, String text) {
        Matcher m = Pattern.compile("\\b[A-Z]\\w*[a-z]\\w*\\b").matcher(text);
        while (m.find()) {
            due.yes(m.group() + " is a class of its own", OWN_CLASSES.contains(m.group()));
        }
    }

    private static void classes(Due due, String text) {
        Matcher m = CLASS.matcher(text);
        Set<String> seen = new TreeSet<>();
        while (m.find()) {
            seen.add(m.group(2));
            String body = body(text, m.end());
            due.yes("fields of " + m.group(2), fields(body, m.group(1).length() + 4) <= 20);
        }
        due.yes("the classes " + seen, seen.equals(new TreeSet<>(OWN_CLASSES)));
        due.is("class", Pattern.compile("\\bclass\\b").matcher(text).results().count(), OWN_CLASSES.size());
    }

    private static long fields(String body, int indent) {
        return FIELD.matcher(body).results().filter(r -> r.group().indexOf("private") == indent).count();
    }

    private static void staticFields(Due due, String text) {
        Matcher m = Pattern.compile("(?m)^.*\\bstatic\\b.*;$").matcher(text);
        while (m.find()) {
            due.yes(m.group().trim() + " is a constant", m.group().matches(" +(public|private) static final int [A-Z_]+ = -?\\d+;"));
        }
    }

    private static void methods(Due due, String text) {
        Matcher m = METHOD.matcher(text);
        while (m.find()) {
            String name = m.group(1);
            String body = body(text, m.end());
            due.no("two methods are called " + name, BODIES.containsKey(name));
            BODIES.put(name, body);
            due.yes("lines of " + name, body.split("\n").length <= 60);
            due.yes("parameters of " + name, m.group(2).split(",").length <= 7);
        }
        due.yes("the methods are found", BODIES.containsKey("run") && BODIES.containsKey("mix") && BODIES.containsKey("Core"));
    }

    private static String body(String text, int from) {
        int open = 1;
        int k = from;
        while (open > 0) {
            char c = text.charAt(k++);
            open += c == '{' ? 1 : c == '}' ? -1 : 0;
        }
        return text.substring(from, k - 1);
    }

    private static void loops(Due due, String text) {
        Matcher m = Pattern.compile("\\bfor \\(.*").matcher(text);
        while (m.find()) {
            due.yes(m.group() + " has an end", m.group().matches("for \\(int (\\w+) = 0; \\1 < \\w+; \\1\\+\\+\\) \\{"));
        }
    }

    private static void objectsAreMadeInConstructors(Due due) {
        for (Map.Entry<String, String> method : BODIES.entrySet()) {
            boolean constructor = OWN_CLASSES.contains(method.getKey());
            due.yes("new in " + method.getKey(), constructor || !method.getValue().contains("new "));
        }
    }

    private static void depth(Due due) {
        for (String name : BODIES.keySet()) {
            int depth = depth(name, 1);
            due.yes("the calls from " + name + " are no recursion and go " + depth + " deep", depth <= 8);
        }
    }

    private static int depth(String name, int level) {
        int deepest = level;
        Matcher m = CALL.matcher(BODIES.get(name));
        while (m.find() && level < 20) {
            if (BODIES.containsKey(m.group(1))) {
                deepest = Math.max(deepest, depth(m.group(1), level + 1));
            }
        }
        return deepest;
    }
}
