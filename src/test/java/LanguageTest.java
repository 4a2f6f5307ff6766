import java.lang.reflect.Constructor;
import java.lang.reflect.Field;
import java.lang.reflect.Method;
import java.lang.reflect.Modifier;
import java.nio.charset.StandardCharsets;
import java.nio.file.Files;
import java.nio.file.Path;
import java.util.Arrays;
import java.util.Set;
import java.util.TreeSet;
import java.util.regex.Matcher;
import java.util.regex.Pattern;

/** What of LANGUAGE.md and of the document's face can be seen from outside. */
public final class LanguageTest {
    private static final Path SOURCE = Path.of("src/main/java/EchoJars.java");
    private static final Path DOCUMENT = Path.of("../shared/DOC.md");

    private LanguageTest() {
    }

    public static void main(String[] args) throws Exception {
        face();
        nestedClasses();
        String source = Files.readString(SOURCE, StandardCharsets.ISO_8859_1);
        for (int k = 0; k < source.length(); k++) {
            Check.is("sign " + k + " is 1 to 127", source.charAt(k) > 0 && source.charAt(k) < 128);
        }
        String code = bare(source);
        forbidden(code);
        methodLengths(code);
        Check.finish();
    }

    private static void face() throws Exception {
        Set<String> due = new TreeSet<>();
        String document = Files.readString(DOCUMENT);
        String listed = document.substring(document.indexOf("```java"), document.indexOf("## Terms"));
        Matcher m = Pattern.compile("public (\\w+) (\\w+)\\((.*?)\\);").matcher(listed);
        while (m.find()) {
            due.add(m.group(1) + " " + m.group(2) + "(" + m.group(3).replaceAll(" \\w+(, |$)", "$1") + ")");
        }
        Set<String> got = new TreeSet<>();
        for (Method method : EchoJars.class.getDeclaredMethods()) {
            if (Modifier.isPublic(method.getModifiers())) {
                String types = String.join(", ", Arrays.stream(method.getParameterTypes()).map(Class::getName)
                        .toArray(String[]::new));
                got.add(method.getReturnType().getName() + " " + method.getName() + "(" + types + ")");
            } else {
                Check.is("private: " + method, Modifier.isPrivate(method.getModifiers()) || method.isSynthetic());
                Check.not("no name of a public one: " + method, names(due).contains(method.getName()));
            }
        }
        Check.is("the face " + got + " is " + due, got.equals(due) && due.size() == 57);
        for (Field field : EchoJars.class.getDeclaredFields()) {
            boolean isNone = field.getName().equals("NONE");
            Check.is("hidden: " + field, isNone ? Modifier.isPublic(field.getModifiers())
                    : Modifier.isPrivate(field.getModifiers()));
        }
        Constructor<?>[] made = EchoJars.class.getDeclaredConstructors();
        Check.same("constructors", made.length, 1);
        Check.is("public and final", Modifier.isFinal(EchoJars.class.getModifiers())
                && Modifier.isPublic(EchoJars.class.getModifiers()) && Modifier.isPublic(made[0].getModifiers()));
    }

    private static Set<String> names(Set<String> face) {
        Set<String> names = new TreeSet<>();
        for (String method : face) {
            names.add(method.replaceAll("^\\w+ (\\w+)\\(.*$", "$1"));
        }
        return names;
    }

    private static void nestedClasses() {
        Class<?>[] inside = EchoJars.class.getDeclaredClasses();
        Check.is("some twelve classes", inside.length <= 11);
        for (Class<?> one : inside) {
            int how = one.getModifiers();
            Check.is("static: " + one, Modifier.isStatic(how) && !Modifier.isPublic(how) && !Modifier.isProtected(how));
            fields(one);
        }
        fields(EchoJars.class);
    }

    private static void fields(Class<?> one) {
        int held = 0;
        for (Field field : one.getDeclaredFields()) {
            if (Modifier.isStatic(field.getModifiers())) {
                Check.is("constant: " + field, Modifier.isFinal(field.getModifiers())
                        && (field.getType().isPrimitive() || field.getType() == String.class));
            } else {
                held++;
            }
        }
        Check.is("some twenty fields: " + one + " has " + held, held <= 20);
        for (Method method : one.getDeclaredMethods()) {
            Check.is("at most seven: " + method, method.getParameterCount() <= 7);
        }
    }

    /** The source without comments and without what stands in texts and signs. */
    private static String bare(String source) {
        return source.replaceAll("(?s)/\\*.*?\\*/", "").replaceAll("//[^\n]*", "")
                .replaceAll("\"[^\"\n]*\"", "TEXT").replaceAll("'[^'\n]+'", "SIGN");
    }

    private static void forbidden(String code) {
        String[] words = {"throw", "throws", "try", "catch", "synchronized", "assert", "import", "package",
            "protected", "float", "double", "instanceof", "Object", "Random", "Thread", "File", "Scanner", "var",
            "yield", "volatile", "transient", "native", "hashCode", "toString", "equals", "goto", "interface"};
        for (String word : words) {
            Check.not("has " + word, Pattern.compile("\\b" + word + "\\b").matcher(code).find());
        }
        Check.not("a lambda", code.contains("->"));
        Check.not("a method reference", code.contains("::"));
        Check.not("a static block", Pattern.compile("static\\s*\\{").matcher(code).find());
        Check.not("texts joined", Pattern.compile("TEXT\\s*\\+|\\+\\s*TEXT").matcher(code).find());
        Check.not("a loop without a bound", Pattern.compile("while \\(true\\)|for \\(;;").matcher(code).find());
        Matcher m = Pattern.compile("\\b(Math|Integer|System|Long|Arrays)\\.(\\w+)").matcher(code);
        while (m.find()) {
            Check.is("of the library: " + m.group(), Arrays.asList("min", "max", "bitCount", "arraycopy")
                    .contains(m.group(2)));
        }
    }

    private static void methodLengths(String code) {
        String[] rows = code.split("\n");
        for (int k = 0; k < rows.length; k++) {
            if (rows[k].matches("( {4}| {8})\\w.*\\) \\{")) {
                String end = rows[k].replaceAll("\\S.*", "") + "}";
                int length = 1;
                while (k + length < rows.length && !rows[k + length].equals(end)) {
                    length++;
                }
                Check.is("short: " + rows[k].trim(), length < 60);
            }
        }
    }
}
