import java.io.IOException;
import java.lang.reflect.Method;
import java.nio.file.Files;
import java.nio.file.Path;
import java.util.regex.Matcher;
import java.util.regex.Pattern;

// The examples of README.md: each call is made, in its order, and must answer what is told behind
// it. Run from the project's root.
public final class ReadmeTest {
    private static final Pattern CALL = Pattern.compile("^x\\.(\\w+)\\(([-0-9, ]*)\\); *// (-?\\d+)\\b.*");
    private static final Pattern TEXT = Pattern.compile("^String text = \"(.*)\";");
    private static final Pattern MADE = Pattern.compile("^BanLand x = new BanLand\\(\\);");

    public static void main(String[] args) throws IOException, ReflectiveOperationException {
        int calls = 0;
        int wrong = 0;
        BanLand x = null;
        for (String line : Files.readString(Path.of("README.md")).split("\n")) {
            Matcher call = CALL.matcher(line);
            Matcher text = TEXT.matcher(line);
            if (MADE.matcher(line).matches()) {
                x = new BanLand();
            } else if (text.matches()) {
                for (int i = 0; i < text.group(1).length(); i++) {
                    x.type(text.group(1).charAt(i));
                }
            } else if (call.matches()) {
                calls++;
                long got = answer(x, call.group(1), call.group(2));
                if (got != Long.parseLong(call.group(3))) {
                    wrong++;
                    System.out.println(line + ": answered " + got);
                }
            } else if (line.startsWith("x.")) {
                wrong++;
                System.out.println("no answer told: " + line);
            }
        }
        if (calls < 10) {
            wrong++;
            System.out.println("README.md has only " + calls + " calls");
        }
        System.out.println(wrong == 0 ? "ReadmeTest: all as told" : "ReadmeTest: " + wrong + " wrong");
        if (wrong != 0) {
            System.exit(1);
        }
    }

    private static long answer(BanLand x, String name, String told) throws ReflectiveOperationException {
        String[] parts = told.isBlank() ? new String[0] : told.split(", *");
        Class<?>[] types = new Class<?>[parts.length];
        Object[] values = new Object[parts.length];
        for (int i = 0; i < parts.length; i++) {
            types[i] = int.class;
            values[i] = Integer.valueOf(parts[i].trim());
        }
        Method method = BanLand.class.getMethod(name, types);
        return ((Number) method.invoke(x, values)).longValue();
    }
}
