import java.lang.reflect.Constructor;
import java.lang.reflect.Field;
import java.lang.reflect.Method;
import java.lang.reflect.Modifier;
import java.nio.file.Files;
import java.nio.file.Path;
import java.util.ArrayList;
import java.util.Arrays;
import java.util.HashSet;
import java.util.List;
import java.util.Set;
import java.util.TreeSet;
import java.util.regex.Matcher;
import java.util.regex.Pattern;

/** The face of the class, and what of the language's rules can be told from its text (args[0]: its file). */
public final class FaceTest {
    private static final String[] FACE = {
        "int feed(int,int,int,int,int)", "boolean end(int)", "int program()", "int fault()", "int count(int)",
        "int of(int,int)", "int hangs(int,int)", "long begun(int)", "boolean summary(int,int,int)",
        "long back(int)", "long forth(int)", "long between(int,int)", "long backOf(int,int)", "long kept(int)",
        "int run(int,int)", "int runKept(int,int,int)", "int ended(int)", "int saw(int,int)"
    };
    private static int wrong = 0;

    private static void due(String what, boolean holds) {
        if (!holds) {
            wrong++;
            System.out.println("not so: " + what);
        }
    }

    public static void main(String[] args) throws Exception {
        checkMembers();
        checkText(Files.readString(Path.of(args.length > 0 ? args[0] : "src/main/java/CallSlicer.java")));
        System.out.println(wrong == 0 ? "the face is as due" : wrong + " things are not as due");
        if (wrong != 0) {
            System.exit(1);
        }
    }

    private static String told(Method m) {
        List<String> types = new ArrayList<>();
        for (Class<?> type : m.getParameterTypes()) {
            types.add(type.getName());
        }
        return m.getReturnType().getName() + " " + m.getName() + "(" + String.join(",", types) + ")";
    }

    private static void checkMembers() {
        Class<?> c = CallSlicer.class;
        due("public and final", Modifier.isPublic(c.getModifiers()) && Modifier.isFinal(c.getModifiers()));
        Set<String> open = new TreeSet<>();
        Set<String> names = new HashSet<>();
        for (Method m : c.getDeclaredMethods()) {
            if (!Modifier.isPrivate(m.getModifiers()) && !m.isSynthetic()) {
                due(m + " is public and no static one",
                    Modifier.isPublic(m.getModifiers()) && !Modifier.isStatic(m.getModifiers()));
                open.add(told(m));
                names.add(m.getName());
            }
        }
        due("the face's methods and no others: " + open, open.equals(new TreeSet<>(Arrays.asList(FACE))));
        for (Field f : c.getDeclaredFields()) {
            boolean constant = f.getName().equals("NONE") && f.getModifiers()
                == (Modifier.PUBLIC | Modifier.STATIC | Modifier.FINAL);
            due(f + " is private or the constant", Modifier.isPrivate(f.getModifiers()) || constant);
        }
        Constructor<?>[] all = c.getDeclaredConstructors();
        due("one constructor", all.length == 1 && Modifier.isPublic(all[0].getModifiers()));
        due("at most twelve classes", c.getDeclaredClasses().length <= 12);
        for (Class<?> inner : c.getDeclaredClasses()) {
            due(inner + " is static", Modifier.isStatic(inner.getModifiers()));
            int own = 0;
            for (Field f : inner.getDeclaredFields()) {
                own += Modifier.isStatic(f.getModifiers()) ? 0 : 1;
            }
            due(inner + " has few fields, not " + own, own <= 20);
            for (Method m : inner.getDeclaredMethods()) {
                due(m + " bears a name of its own", !names.contains(m.getName()));
                due(m + " takes few parameters", m.getParameterCount() <= 7);
            }
        }
    }

    private static void checkText(String source) {
        due("signs of 10 and 32 to 126 alone", source.matches("[\\n -~]*"));
        String code = source.replaceAll("(?s)/\\*.*?\\*/", "").replaceAll("//[^\n]*", "");
        String banned = "throw|throws|try|catch|finally|synchronized|assert|package|volatile|native|Object|"
            + "Exception|Error|System|Thread|equals|hashCode|toString|\\w+Exact|double|float";
        Matcher words = Pattern.compile("\\b(" + banned + ")\\b|->|::|@\\w").matcher(code);
        while (words.find()) {
            due("no '" + words.group() + "' in the text", false);
        }
        Matcher imports = Pattern.compile("import ([^;]*);").matcher(code);
        while (imports.find()) {
            due("import of " + imports.group(1), imports.group(1).equals("java.util.Arrays"));
        }
        checkLengths(source);
    }

    /** Methods stand four or eight blanks deep, and end with a bracket as deep. */
    private static void checkLengths(String source) {
        String[] lines = source.split("\n");
        for (int i = 0; i < lines.length; i++) {
            Matcher head = Pattern.compile("^( {4}| {8})(private|public) [^=]*\\) \\{$").matcher(lines[i]);
            if (head.find()) {
                int last = i;
                while (last < lines.length && !lines[last].equals(head.group(1) + "}")) {
                    last++;
                }
                due("a short method: " + lines[i].trim(), last - i < 60);
            }
        }
    }
}
