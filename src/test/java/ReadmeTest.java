import java.io.IOException;
import java.lang.reflect.InvocationTargetException;
import java.lang.reflect.Method;
import java.nio.charset.StandardCharsets;
import java.nio.file.Files;
import java.nio.file.Path;
import java.util.TreeSet;
import java.util.regex.Matcher;
import java.util.regex.Pattern;

/** The java blocks of README.md, which are one run: each call answers or throws what stands behind it. */
public final class ReadmeTest {
    private static final Path README = Path.of("README.md");
    private static final Pattern BLOCK = Pattern.compile("```java\n(.*?)```", Pattern.DOTALL);
    private static final Pattern CALL = Pattern.compile("box\\.(\\w+)\\((.*?)\\);\\s*(?://\\s*(.*))?");
    private static final Pattern ANSWER = Pattern.compile("(throws \\w+|-?\\d+|true|false)\\b.*");
    private static final String MAKING = "PegBox box = new PegBox();";

    private static PegBox box;

    public static void main(String[] args) throws IOException, IllegalAccessException {
        TreeSet<String> left = new TreeSet<>();
        for (Method method : PegBox.class.getMethods()) {
            if (method.getDeclaringClass() == PegBox.class) {
                left.add(method.getName());
            }
        }
        Matcher block = BLOCK.matcher(Files.readString(README, StandardCharsets.UTF_8));
        while (block.find()) {
            for (String line : block.group(1).split("\n")) {
                run(line, left);
            }
        }
        Check.same("calls that README.md does not show", left.toString(), "[]");
        Check.end("ReadmeTest");
    }

    private static void run(String line, TreeSet<String> left) throws IllegalAccessException {
        if (line.equals(MAKING)) {
            box = new PegBox();
            return;
        }
        Matcher call = CALL.matcher(line);
        if (box == null || !call.matches()) {
            Check.fail("README.md: neither a call nor the making: " + line);
            return;
        }
        left.remove(call.group(1));
        Method method = named(call.group(1));
        String got = answer(method, call.group(2).split(", *"));
        Check.same("README.md: " + line, got, told(method, call.group(3)));
    }

    /** Behind a term stands a remark alone; behind another call, what it answers comes first. */
    private static String told(Method method, String remark) {
        if (method == null || method.getReturnType() == void.class) {
            return "null";
        }
        Matcher answer = ANSWER.matcher(remark == null ? "" : remark);
        return answer.matches() ? answer.group(1) : "an answer that README.md does not tell";
    }

    private static Method named(String name) {
        for (Method method : PegBox.class.getMethods()) {
            if (method.getName().equals(name)) {
                return method;
            }
        }
        return null;
    }

    private static String answer(Method method, String[] texts) throws IllegalAccessException {
        if (method == null) {
            return "no such call";
        }
        Class<?>[] types = method.getParameterTypes();
        Object[] arguments = new Object[types.length];
        for (int i = 0; i < types.length; i++) {
            arguments[i] = types[i] == int.class ? (Object) Integer.valueOf(texts[i]) : Boolean.valueOf(texts[i]);
        }
        try {
            return String.valueOf(method.invoke(box, arguments));
        } catch (InvocationTargetException e) {
            return "throws " + e.getCause().getClass().getSimpleName();
        }
    }
}
