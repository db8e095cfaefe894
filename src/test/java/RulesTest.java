import java.io.IOException;
import java.lang.reflect.Constructor;
import java.lang.reflect.Field;
import java.lang.reflect.Method;
import java.lang.reflect.Modifier;
import java.nio.file.Files;
import java.nio.file.Path;
import java.util.TreeSet;
import java.util.regex.Matcher;
import java.util.regex.Pattern;

// The face of the class, and those rules of ../shared/LANGUAGE.md that can be seen from outside
// or by a look at the text of the source. Run from the project's root.
public final class RulesTest {
    private static final String[] FACE = {"int land()", "int town(int)", "int road(int,int,int)",
        "int clause(int,int,int,int,int)", "int strike(int)", "int undo()", "int type(int)", "int clear()",
        "int read()", "int of(int,int)", "int far(int,int)", "int allowed(int,int,int,int,int,int)",
        "int nearest(int,int,int,int,int,int)", "int contradict(int,int,int)", "int settle(int,int)",
        "int reads(int,int,int,int,int)", "int patience(int,int,int,int)", "int concede(int,int,int,int)",
        "int presses(int,int)", "int leave(int,int,int,int,int)", "int burn()", "int forged()",
        "int whose(int,int,int,int,int,int)", "int odds(int,int,int,int,int,int)", "int drawn(int,int)",
        "long part(int)", "int image(int)", "int from(int)", "int status(int)", "int count(int)",
        "long digest()"};
    // What may not stand in the program, as patterns over its text without comments and strings.
    private static final String[] OUTLAWED = {"\\bthrow\\b", "\\bthrows\\b", "\\btry\\b", "\\bcatch\\b",
        "\\bassert\\b", "\\bsynchronized\\b", "->", "::", "\\bimport\\b", "\\bpackage\\b", "@", "Exact\\b",
        "\\bequals\\b", "\\bhashCode\\b", "\\btoString\\b", "\\bThread\\b", "\\bRandom\\b", "\\bprotected\\b",
        "currentTimeMillis", "nanoTime", "\\bexit\\b", "\\bprint", "\\bvar\\b", "\\bObject\\b"};

    private static int wrong = 0;

    private static void hold(boolean holds, String what) {
        if (!holds) {
            wrong++;
            System.out.println(what);
        }
    }

    public static void main(String[] args) throws IOException {
        face();
        inside();
        source(Files.readString(Path.of("src/main/java/BanLand.java")));
        System.out.println(wrong == 0 ? "RulesTest: all hold" : "RulesTest: " + wrong + " broken");
        if (wrong != 0) {
            System.exit(1);
        }
    }

    private static String told(Method m) {
        StringBuilder s = new StringBuilder(m.getReturnType().getName() + " " + m.getName() + "(");
        for (int i = 0; i < m.getParameterCount(); i++) {
            s.append(i == 0 ? "" : ",").append(m.getParameterTypes()[i].getName());
        }
        return s.append(')').toString();
    }

    private static void face() {
        hold(Modifier.isFinal(BanLand.class.getModifiers()), "the class is not final");
        TreeSet<String> want = new TreeSet<>();
        for (String m : FACE) {
            want.add(m);
        }
        TreeSet<String> open = new TreeSet<>();
        for (Method m : BanLand.class.getDeclaredMethods()) {
            if (Modifier.isPublic(m.getModifiers()) && !Modifier.isStatic(m.getModifiers())) {
                open.add(told(m));
            } else {
                hold(Modifier.isPrivate(m.getModifiers()) || m.isSynthetic(), "not private: " + m);
            }
        }
        hold(open.equals(want), "the face is " + open);
        for (Field f : BanLand.class.getDeclaredFields()) {
            boolean constant = f.getName().matches("NONE|BAD|NO|FULL");
            hold(constant == Modifier.isPublic(f.getModifiers()), "public or not: " + f);
            hold(constant || Modifier.isPrivate(f.getModifiers()), "not private: " + f);
        }
        Constructor<?>[] made = BanLand.class.getDeclaredConstructors();
        hold(made.length == 1 && made[0].getParameterCount() == 0 && Modifier.isPublic(made[0].getModifiers()),
                "the constructor");
    }

    private static void inside() {
        TreeSet<String> names = new TreeSet<>();
        for (String m : FACE) {
            names.add(m.substring(m.indexOf(' ') + 1, m.indexOf('(')));
        }
        int classes = 1;
        for (Class<?> c : BanLand.class.getDeclaredClasses()) {
            classes++;
            hold(Modifier.isStatic(c.getModifiers()) && !Modifier.isPublic(c.getModifiers()), "class " + c);
            hold(c.getDeclaredClasses().length == 0, "classes in " + c);
            owns(c);
            for (Method m : c.getDeclaredMethods()) {
                hold(!names.contains(m.getName()), "a name of the face: " + m);
            }
        }
        owns(BanLand.class);
        hold(classes <= 12, "classes: " + classes);
    }

    private static void owns(Class<?> c) {
        int fields = 0;
        for (Field f : c.getDeclaredFields()) {
            boolean isStatic = Modifier.isStatic(f.getModifiers());
            hold(!isStatic || Modifier.isFinal(f.getModifiers()), "static and not final: " + f);
            fields += isStatic ? 0 : 1;
        }
        hold(fields <= 20, "fields of " + c + ": " + fields);
        for (Method m : c.getDeclaredMethods()) {
            hold(m.getParameterCount() <= 7, "more than seven parameters: " + m);
        }
    }

    private static void source(String text) {
        String code = text.replaceAll("//[^\n]*", "").replaceAll("\"[^\"\n]*\"", "\"\"");
        hold(!code.contains("/*"), "a long comment, which this test can't cut out");
        for (String outlawed : OUTLAWED) {
            Matcher found = Pattern.compile(outlawed).matcher(code);
            hold(!found.find(), "in the source: " + outlawed);
        }
        for (String line : text.split("\n")) {
            hold(line.length() <= 100, "a long line: " + line);
        }
        lengths(text.split("\n"));
    }

    // A method begins at a line that opens it and ends at the next closing brace of its own depth.
    private static void lengths(String[] lines) {
        for (int i = 0; i < lines.length; i++) {
            Matcher opens = Pattern.compile("^( {4}| {8})[a-zA-Z].*\\) \\{$").matcher(lines[i]);
            if (opens.find() && !lines[i].matches(" *(if|for|while|switch|do)\\b.*")) {
                int end = i;
                while (end < lines.length && !lines[end].equals(opens.group(1) + "}")) {
                    end++;
                }
                hold(end - i < 60, "a method of more than sixty lines: " + lines[i]);
            }
        }
    }
}
