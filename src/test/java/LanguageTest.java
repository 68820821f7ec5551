import java.io.IOException;
import java.nio.charset.StandardCharsets;
import java.nio.file.Files;
import java.nio.file.Path;
import java.util.List;
import java.util.regex.Matcher;
import java.util.regex.Pattern;

/** The rules of LANGUAGE.md that a scan of the program's text can see; it runs in the project's folder. */
public final class LanguageTest {
    private static final Path PROGRAM = Path.of("src", "main", "java", "PegBox.java");
    private static final Pattern HEAD =
            Pattern.compile("^( {4}| {8})(?!.*\\bclass\\b)(?!.*[=;])\\w[\\w\\[\\]<> ]*\\(.*");
    private static final int LONGEST = 60;
    private static final int MOST_FIELDS = 20;
    private static final int MOST_CLASSES = 12;

    public static void main(String[] args) throws IOException {
        String text = Files.readString(PROGRAM, StandardCharsets.UTF_8);
        Check.due("signs of 1 to 127 alone", text.chars().allMatch(sign -> sign > 0 && sign < 128), true);
        String code = withoutCommentsAndTexts(text);
        none(code, "a library's name", "\\b(import|package|java)\\b");
        none(code, "a lambda or a method reference", "->|::");
        none(code, "try, finally, synchronized, assert", "\\b(try|catch|finally|synchronized|assert)\\b");
        none(code, "a function that ends in Exact", "Exact\\b");
        none(code, "toString, equals, hashCode of its own", "\\b(toString|equals|hashCode)\\s*\\(");
        none(code, "texts joined by +", "\"\\s*\\+|\\+\\s*\"");
        none(code, "a static field that isn't final",
                "\\bstatic\\s+(?!final)(?!class)[\\w\\[\\]]+\\s+\\w+\\s*[=;]");
        none(code, "another exception",
                "\\bnew\\s+(?!IndexOutOfBounds|IllegalArgument|IllegalState)\\w*(Exception|Error)\\b");
        none(code, "protected, interface for others", "\\bprotected\\b");
        none(code, "while(true) and its like", "while\\s*\\(\\s*true|for\\s*\\(\\s*;\\s*;");
        none(code, "a library's call", "\\b(System|Thread|Runtime|Random|Arrays|Objects|Long|Integer)\\b");
        Check.due("at most 12 classes", count(code, "\\b(class|interface|enum|record)\\s+\\w+") <= MOST_CLASSES, true);
        lengths(code);
        fields();
        Check.end("LanguageTest");
    }

    private static String withoutCommentsAndTexts(String text) {
        return text.replaceAll("(?s)/\\*.*?\\*/", "").replaceAll("//[^\n]*", "").replaceAll("\"[^\"\n]*\"", "\"\"");
    }

    private static void none(String code, String what, String pattern) {
        Matcher found = Pattern.compile(pattern).matcher(code);
        Check.same(what, found.find() ? found.group() : "none", "none");
    }

    private static int count(String code, String pattern) {
        Matcher found = Pattern.compile(pattern).matcher(code);
        int count = 0;
        while (found.find()) {
            count++;
        }
        return count;
    }

    /** A method goes from its head to the closing brace under the head's first sign. */
    private static void lengths(String code) {
        List<String> lines = List.of(code.split("\n"));
        int methods = 0;
        for (int i = 0; i < lines.size(); i++) {
            Matcher head = HEAD.matcher(lines.get(i));
            if (!head.matches()) {
                continue;
            }
            int end = i;
            while (end < lines.size() && !lines.get(end).equals(head.group(1) + "}")) {
                end++;
            }
            if (lines.get(i).matches("^ {8}(if|for|while|switch)\\b.*")) {
                continue;
            }
            methods++;
            Check.due("the lines of " + lines.get(i).trim() + " are few", end - i < LONGEST, true);
        }
        Check.due("methods are found", methods > 40, true);
    }

    private static void fields() {
        fieldsOf(PegBox.class);
        for (Class<?> inside : PegBox.class.getDeclaredClasses()) {
            fieldsOf(inside);
        }
    }

    private static void fieldsOf(Class<?> type) {
        int count = 0;
        for (java.lang.reflect.Field field : type.getDeclaredFields()) {
            boolean isStatic = java.lang.reflect.Modifier.isStatic(field.getModifiers());
            Check.due(field + " is final if it is static",
                    !isStatic || java.lang.reflect.Modifier.isFinal(field.getModifiers()), true);
            count += isStatic ? 0 : 1;
        }
        Check.due("the fields of " + type.getName() + " are few", count <= MOST_FIELDS, true);
    }
}
