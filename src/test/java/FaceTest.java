import java.lang.reflect.Constructor;
import java.lang.reflect.Field;
import java.lang.reflect.Method;
import java.lang.reflect.Modifier;
import java.nio.charset.StandardCharsets;
import java.nio.file.Files;
import java.nio.file.Path;
import java.util.Arrays;
import java.util.Set;
import java.util.TreeSet;
import java.util.stream.Collectors;

/** The public face as the document has it, and those rules of LANGUAGE.md that can be read off the class and its text. */
public final class FaceTest {
    private static int wrong = 0;

    public static void main(String[] args) throws Exception {
        face();
        members();
        nested();
        words();
        System.out.println(wrong == 0 ? "the face and the rules are as due" : wrong + " things are not as due");
        if (wrong != 0) {
            System.exit(1);
        }
    }

    private static void check(boolean good, String what) {
        if (!good) {
            wrong++;
            System.out.println("not as due: " + what);
        }
    }

    /** The calls of 'The public face' in the document, each as its type, its name and the types that it takes. */
    private static void face() throws Exception {
        String document = Files.readString(Path.of("../shared/DOC.md"), StandardCharsets.UTF_8);
        int from = document.indexOf("public final class TideDiscs {");
        String block = document.substring(from, document.indexOf("```", from));
        Set<String> due = new TreeSet<>();
        for (String line : block.split("\n")) {
            String text = line.trim();
            if (text.startsWith("public ") && text.endsWith(");") && !text.startsWith("public TideDiscs(")) {
                String inside = text.substring(text.indexOf('(') + 1, text.indexOf(')'));
                String types = Arrays.stream(inside.split(",")).map(String::trim)
                    .filter(p -> !p.isEmpty()).map(p -> p.split(" ")[0]).collect(Collectors.joining(","));
                due.add(text.substring("public ".length(), text.indexOf('(')) + "(" + types + ")");
            }
        }
        Set<String> is = new TreeSet<>();
        for (Method m : TideDiscs.class.getDeclaredMethods()) {
            if (Modifier.isPublic(m.getModifiers())) {
                String types = Arrays.stream(m.getParameterTypes()).map(Class::getName).collect(Collectors.joining(","));
                is.add(m.getReturnType().getName() + " " + m.getName() + "(" + types + ")");
                check(!Modifier.isStatic(m.getModifiers()), m.getName() + " is static");
            }
        }
        check(due.size() == 49, "calls in the document: " + due.size());
        check(due.equals(is), "the calls " + is + " for " + due);
    }

    private static void members() throws Exception {
        Class<?> c = TideDiscs.class;
        check(Modifier.isPublic(c.getModifiers()) && Modifier.isFinal(c.getModifiers()), "public final class");
        Constructor<?>[] constructors = c.getDeclaredConstructors();
        check(constructors.length == 1 && Modifier.isPublic(constructors[0].getModifiers())
            && constructors[0].getParameterCount() == 0, "one public constructor");
        Set<String> open = publicNames();
        for (Method m : c.getDeclaredMethods()) {
            boolean isPrivate = Modifier.isPrivate(m.getModifiers());
            check(isPrivate || Modifier.isPublic(m.getModifiers()), "method " + m.getName() + " can be seen");
            check(!isPrivate || !open.contains(m.getName()), "private method " + m.getName() + " bears a public name");
        }
        for (Field f : c.getDeclaredFields()) {
            check(f.getName().equals("NONE") == !Modifier.isPrivate(f.getModifiers()), "field " + f.getName());
        }
        check(c.getField("NONE").getInt(null) == -1, "NONE");
    }

    private static Set<String> publicNames() {
        Set<String> open = new TreeSet<>();
        for (Method m : TideDiscs.class.getDeclaredMethods()) {
            if (Modifier.isPublic(m.getModifiers())) {
                open.add(m.getName());
            }
        }
        return open;
    }

    private static void nested() {
        Class<?>[] inside = TideDiscs.class.getDeclaredClasses();
        check(inside.length <= 11, inside.length + " classes inside");
        for (Class<?> c : inside) {
            check(Modifier.isStatic(c.getModifiers()) && !Modifier.isPublic(c.getModifiers()), c.getName());
        }
        check(TideDiscs.class.getNestMembers().length == inside.length + 1, "a class that is not named");
        for (Class<?> c : TideDiscs.class.getNestMembers()) {
            int fields = 0;
            for (Field f : c.getDeclaredFields()) {
                boolean isStatic = Modifier.isStatic(f.getModifiers());
                check(!isStatic || Modifier.isFinal(f.getModifiers()), "static field " + f.getName());
                fields += isStatic ? 0 : 1;
            }
            check(fields <= 20, c.getName() + " has " + fields + " fields");
            for (Method m : c.getDeclaredMethods()) {
                boolean open = c == TideDiscs.class && Modifier.isPublic(m.getModifiers());
                check(open || m.getParameterCount() <= 7, m.getName() + " takes too much");
                check(c == TideDiscs.class || !publicNames().contains(m.getName()), m.getName() + " bears a public name");
                check(!m.isSynthetic(), "a lambda or bridge: " + m.getName());
            }
        }
    }

    /** Words and signs that LANGUAGE.md leaves out; comments and texts are cut off first. */
    private static void words() throws Exception {
        String source = Files.readString(Path.of("src/main/java/TideDiscs.java"), StandardCharsets.UTF_8);
        for (int i = 0; i < source.length(); i++) {
            check(source.charAt(i) < 128, "a sign above 127 at " + i);
        }
        String code = source.replaceAll("(?s)/\\*.*?\\*/", " ").replaceAll("//[^\n]*", " ").replaceAll("\"[^\"\n]*\"", "\"\"");
        String[] out = {"throw", "throws", "try", "catch", "finally", "synchronized", "assert", "import", "package", "native",
            "volatile", "transient", "double", "float", "Object", "Exception", "System.out", "Thread", "hashCode", "instanceof"};
        for (String word : out) {
            check(!code.matches("(?s).*\\b" + word.replace(".", "\\.") + "\\b.*"), word);
        }
        check(!code.contains("->") && !code.contains("::"), "a lambda");
        check(!code.contains("@"), "an annotation");
        check(!code.contains("Exact"), "a function whose name ends in Exact");
        int lines = 0;
        String name = "";
        for (String line : source.split("\n")) {
            if (line.matches(" {4,8}[a-zA-Z].*\\) \\{")) {
                lines = 0;
                name = line.trim();
            }
            lines++;
            if (line.matches(" {4,8}\\}")) {
                check(lines <= 60 || name.isEmpty(), lines + " lines in " + name);
                name = "";
            }
        }
    }
}
