import java.nio.file.Files;
import java.nio.file.Path;
import java.util.ArrayList;
import java.util.List;
import java.util.regex.Matcher;
import java.util.regex.Pattern;

/** What can be seen of LANGUAGE.md's rules in the text of the class, its comments and texts left out. */
public final class LanguageTest {
    private static void never(String code, String rule, String pattern) {
        Matcher m = Pattern.compile(pattern).matcher(code);
        boolean found = m.find();
        Check.due(rule + (found ? ": " + m.group() : ""), found, false);
    }

    private static int count(String code, String pattern) {
        return (int) Pattern.compile(pattern).matcher(code).results().count();
    }

    private static String bare(String text) {
        return text.replaceAll("(?s)/\\*.*?\\*/", "").replaceAll("//[^\n]*", "").replaceAll("\"[^\"\n]*\"", "\"\"");
    }

    /** The names and the bodies of all methods and constructors, in turn. */
    private static List<String> methods(String code) {
        List<String> found = new ArrayList<>();
        Pattern head = Pattern.compile("\n +(?:(?:public|private|static|final) )*(?:[\\w\\[\\]]+ )?(\\w+)\\(([^()]*)\\)[\\w, ]*\\{");
        Matcher m = head.matcher(code);
        while (m.find()) {
            if (m.group(1).matches("if|for|while|switch|catch")) {
                continue;
            }
            int depth = 1;
            int end = m.end();
            for (; depth > 0; end++) {
                depth += code.charAt(end) == '{' ? 1 : code.charAt(end) == '}' ? -1 : 0;
            }
            found.add(m.group(1));
            found.add(code.substring(m.start(), end));
        }
        return found;
    }

    public static void main(String[] args) throws Exception {
        String code = bare(Files.readString(Path.of("src/main/java/SmallCraft.java")));
        never(code, "rule 2, lambdas and method references", "->|::");
        never(code, "rule 4, imports", "import (?!java\\.util\\.NoSuchElementException;)");
        never(code, "rule 4, Exact", "\\w+Exact\\(");
        never(code, "rule 4, the library", "\\b(System|Arrays|Integer|Long|List|ArrayList|StringBuilder|Object|Iterator)\\b");
        never(code, "rule 4, Math", "Math\\.(?!floorMod|abs|max|min)");
        never(code, "rule 3, floating numbers", "\\b(double|float)\\b");
        never(code, "rule 5, static state", "static (?!final |boolean |int |void |Kind )");
        never(code, "rule 6, no catch is needed here", "\\b(try|catch|finally|assert|synchronized|instanceof)\\b");
        never(code, "rule 6, throws", "throw (?!new (IllegalStateException|IllegalArgumentException|IndexOutOfBoundsException"
            + "|NoSuchElementException)\\(\"\"\\);)");
        never(code, "rule 1", "\\bprotected\\b");
        Check.due("rule 11, some twelve classes", count(code, "\\b(class|enum|interface|record) \\w+ *\\{") <= 12, true);
        List<String> methods = methods(code);
        Check.due("methods found", methods.size() > 200, true);
        for (int i = 0; i < methods.size(); i += 2) {
            String name = methods.get(i);
            String body = methods.get(i + 1);
            Check.due("rule 11, lines of " + name, count(body, "\n") <= 60, true);
            String parameters = body.substring(body.indexOf('('), body.indexOf(')'));
            Check.due("rule 11, parameters of " + name, count(parameters, ",") <= 6, true);
            boolean taken = name.matches("feed|load|plan|fault|run|command|part|ask|note|at|name|kept|down|item|craft");
            Check.due("rule 1, the name of " + name, taken, body.trim().startsWith("public ") && taken);
            boolean makes = body.contains(" new ") && !body.contains("throw new ");
            boolean isConstructor = name.matches("[A-Z]\\w*");
            Check.due("rows are made in constructors, not in " + name, makes && !isConstructor, false);
        }
        Check.end();
    }
}
