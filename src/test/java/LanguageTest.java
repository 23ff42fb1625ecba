import java.io.IOException;
import java.lang.reflect.Constructor;
import java.lang.reflect.Field;
import java.lang.reflect.Method;
import java.lang.reflect.Modifier;
import java.nio.charset.StandardCharsets;
import java.nio.file.Files;
import java.nio.file.Path;
import java.util.Arrays;
import java.util.List;
import java.util.Set;
import java.util.TreeSet;
import java.util.regex.Matcher;
import java.util.regex.Pattern;

/** What of ../shared/LANGUAGE.md can be seen in the class and in its source without a parser of Java. */
public final class LanguageTest {
    private static final Check CHECK = new Check();
    private static final Path SOURCE = Path.of("src/main/java/WordSolver.java");

    private static final String[] FACE = {
        "append(int):int", "bestWitness(int):int", "binary(int,int,int):int", "character(int):int",
        "choice(int,int,int):int", "clearText():int", "clearWishes():int", "constant(int,int):int",
        "constraint(int,boolean):int", "constraints():int", "core():int", "counterexample(int,int,int):int",
        "digest():long", "equivalent(int,int):boolean", "extend(int,int,boolean):int",
        "extreme(int,boolean,boolean):int", "extremeWitness(int,boolean,int):int", "fixed(int,boolean):int",
        "gain():int", "info(int,int):int", "input(int,int):int", "models(int):int", "nodes():int", "pop():int",
        "push():int", "read():int", "require(int):int", "satisfiable():boolean", "slice(int,int,int):int",
        "syntaxError():int", "unary(int,int):int", "undo():int", "value(int,boolean):int", "valueAt(int,int):int",
        "values(int,int):int", "variable(int):int", "variables():int", "wish(int,int):int", "witness(int):int",
        "write(int):int"};

    private static void rule(int number, String what, boolean kept) {
        CHECK.due("rule " + number + ": " + what, true, kept);
    }

    private static String signature(Method method) {
        StringBuilder all = new StringBuilder(method.getName()).append('(');
        for (Class<?> type : method.getParameterTypes()) {
            all.append(all.charAt(all.length() - 1) == '(' ? "" : ",").append(type.getName());
        }
        return all.append("):").append(method.getReturnType().getName()).toString();
    }

    private static void rule1Face() {
        Class<?> face = WordSolver.class;
        rule(1, "public and final", Modifier.isPublic(face.getModifiers()) && Modifier.isFinal(face.getModifiers()));
        Set<String> shown = new TreeSet<>();
        Set<String> names = new TreeSet<>();
        for (Method method : face.getDeclaredMethods()) {
            if (!Modifier.isPrivate(method.getModifiers())) {
                shown.add(signature(method));
                names.add(method.getName());
            }
        }
        CHECK.same("rule 1: methods", new TreeSet<>(Arrays.asList(FACE)).toString(), shown.toString());
        for (Method method : face.getDeclaredMethods()) {
            if (Modifier.isPrivate(method.getModifiers())) {
                rule(1, method.getName() + " is no public name", !names.contains(method.getName()));
            }
        }
        for (Class<?> inside : face.getDeclaredClasses()) {
            rule(1, inside + " is private", Modifier.isPrivate(inside.getModifiers()));
            rule(2, inside + " is static", Modifier.isStatic(inside.getModifiers()));
            for (Method method : inside.getDeclaredMethods()) {
                rule(1, inside + "." + method.getName() + " is no public name", !names.contains(method.getName()));
            }
        }
        for (Field field : face.getDeclaredFields()) {
            boolean isNone = field.getName().equals("NONE");
            rule(1, field.getName(), Modifier.isPrivate(field.getModifiers()) != isNone);
        }
        Constructor<?>[] constructors = face.getDeclaredConstructors();
        rule(1, "one constructor", constructors.length == 1 && Modifier.isPublic(constructors[0].getModifiers())
                && constructors[0].getParameterCount() == 0);
    }

    private static void rule5Static(Class<?> type) {
        Set<Class<?>> good = Set.of(int.class, long.class, boolean.class, char.class, String.class, int[].class,
                long[].class, char[].class, byte[].class);
        for (Field field : type.getDeclaredFields()) {
            if (Modifier.isStatic(field.getModifiers())) {
                rule(5, field.getName() + " is final", Modifier.isFinal(field.getModifiers()));
                rule(5, field.getName() + " has a good type", good.contains(field.getType()));
            }
        }
    }

    private static void rule11Sizes(Class<?> type) {
        int fields = 0;
        for (Field field : type.getDeclaredFields()) {
            fields += Modifier.isStatic(field.getModifiers()) ? 0 : 1;
        }
        rule(11, type + " has some twenty fields at most", fields <= 20);
        for (Method method : type.getDeclaredMethods()) {
            rule(11, method.getName() + " has seven parameters at most", method.getParameterCount() <= 7);
        }
    }

    /** The source without what stands in comments, texts and characters. */
    private static String bare(String source) {
        Matcher m = Pattern.compile("(?s)/\\*.*?\\*/|//[^\n]*|\"(?:\\\\.|[^\"\\\\])*\"|'(?:\\\\.|[^'\\\\])+'")
                .matcher(source);
        return m.replaceAll(found -> {
            String part = found.group();
            String lines = "\n".repeat((int) part.chars().filter(c -> c == '\n').count());
            return part.startsWith("\"") ? "\"\"" : part.startsWith("'") ? "' '" : lines;
        });
    }

    private static void forbidden(int number, String bare, String... words) {
        for (String word : words) {
            rule(number, word, !Pattern.compile(word).matcher(bare).find());
        }
    }

    private static void rulesOfWords(String source, String bare) {
        rule(3, "signs 1 to 127", source.chars().allMatch(c -> c > 0 && c < 128));
        forbidden(1, bare, "\\bpackage\\b", "\\bprotected\\b");
        forbidden(2, bare, "->", "::");
        forbidden(3, bare, "\\bfloat\\b", "\\bdouble\\b", "\\bObject\\b", "\\bMap\\b", "\\bSet\\b", "\\bvar\\b");
        forbidden(4, bare, "\\bimport\\b", "Exact\\b", "\\bSystem\\.(?!arraycopy\\b)", "\\bString\\.", "\\bMath\\.(?!min|max)",
                "\\bLong\\.(?!bitCount)", "\\bInteger\\.");
        forbidden(5, bare, "\\bstatic\\s*\\{");
        forbidden(6, bare, "\\bcatch\\b", "\\btry\\b", "\\bfinally\\b", "\\bsynchronized\\b", "\\bassert\\b",
                "\\binstanceof\\b", "\\bequals\\b", "\\bhashCode\\b", "\\btoString\\b",
                "throw new (?!(IllegalStateException|IllegalArgumentException|IndexOutOfBoundsException)\\(\"\"\\);)");
        forbidden(10, bare, "\"\"\\s*\\+", "\\+\\s*\"\"");
        forbidden(13, bare, "nanoTime", "currentTimeMillis", "random", "Random", "Thread");
    }

    private static void rule9Loops(String bare) {
        rule(9, "no loop without an end", !Pattern.compile("while\\s*\\(true\\)|for\\s*\\([^;]*;\\s*;").matcher(bare).find());
        Matcher m = Pattern.compile("while \\((.*)\\) \\{").matcher(bare);
        while (m.find()) {
            rule(9, "a bound in while (" + m.group(1) + ")", Pattern.compile("[<>]").matcher(m.group(1)).find());
        }
    }

    private static void rule11Methods(String bare) {
        String[] lines = bare.split("\n");
        int depth = 0;
        int classes = 0;
        int start = -1;
        int startDepth = 0;
        for (int i = 0; i < lines.length; i++) {
            String line = lines[i];
            boolean isClass = Pattern.compile("\\bclass\\b").matcher(line).find();
            classes += isClass ? 1 : 0;
            boolean opens = line.trim().endsWith("{");
            if (start < 0 && opens && !isClass && depth >= 1) {
                start = i;
                startDepth = depth;
            }
            depth += line.chars().map(c -> c == '{' ? 1 : c == '}' ? -1 : 0).sum();
            if (start >= 0 && depth == startDepth) {
                rule(11, "sixty lines at most, from line " + (start + 1), i - start < 60);
                start = -1;
            }
        }
        rule(11, "braces are counted well", depth == 0);
        rule(11, "some twelve classes at most", classes <= 12);
    }

    public static void main(String[] args) throws IOException {
        String source = Files.readString(SOURCE, StandardCharsets.UTF_8);
        String bare = bare(source);
        rule1Face();
        rule5Static(WordSolver.class);
        rule11Sizes(WordSolver.class);
        for (Class<?> inside : List.of(WordSolver.class.getDeclaredClasses())) {
            rule5Static(inside);
            rule11Sizes(inside);
        }
        rulesOfWords(source, bare);
        rule9Loops(bare);
        rule11Methods(bare);
        CHECK.close("language");
    }
}
