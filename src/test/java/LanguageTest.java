import java.io.IOException;
import java.lang.reflect.Constructor;
import java.lang.reflect.Field;
import java.lang.reflect.Method;
import java.lang.reflect.Modifier;
import java.nio.charset.StandardCharsets;
import java.nio.file.Files;
import java.nio.file.Path;
import java.util.Arrays;
import java.util.List;
import java.util.Set;
import java.util.TreeSet;
import java.util.regex.Matcher;
import java.util.regex.Pattern;

/** What of LANGUAGE.md can be read off the source and the compiled class. */
public final class LanguageTest {
    private static final String[] FACE = {
        "int feed(long,long,long)", "int road()", "int journey()", "int shares()", "int rider(int,int)", "int stretch(int,int)",
        "int lawful(int)", "int worth(int,int,int)", "int plans()", "int sit(int,int)", "int drive()", "boolean undo()",
        "int judged(int)", "int evenest(int,int)", "int most(int)", "int worst()", "int after()", "int pieces(int,int)",
        "int toffees(int,int)", "long door(int,int,int,int)", "int called(int,int)", "int fairest()",
        "boolean see(int,int,int,boolean)", "int fits(int)", "int years(int,int,int)", "boolean mark(int,boolean)", "int count(int)"};
    private static final String[] NOT_THERE = {"->", "::", "\\bsynchronized\\b", "\\bassert\\b", "\\bfinally\\b", "\\bcatch\\b",
        "\\bpackage\\b", "\\bprotected\\b", "\\bdouble\\b", "\\bfloat\\b", "\\bThread\\b", "System\\.(?!arraycopy\\b)", "\\w+Exact\\b",
        "\\bRandom\\b", "\\bfor\\s*\\(\\s*;\\s*;", "while\\s*\\(\\s*true", "\\bString\\[\\]", "\"\\s*\\+", "\\+\\s*\""};

    private LanguageTest() {
    }

    public static void main(String[] args) throws IOException {
        String source = Files.readString(Path.of("src/main/java/MiddleSeat.java"), StandardCharsets.ISO_8859_1);
        face();
        classes();
        String code = source.replaceAll("(?s)/\\*.*?\\*/", " ").replaceAll("//[^\n]*", " ");
        for (String pattern : NOT_THERE) {
            Due.due("in the source: " + pattern, Pattern.compile(pattern).matcher(code).find(), false);
        }
        imports(code);
        made(code);
        lengths(source);
        Due.due("only plain signs", source.chars().allMatch(c -> c == '\n' || c >= 32 && c <= 126), true);
        Due.end();
    }

    private static void face() {
        Set<String> got = new TreeSet<>();
        Set<String> names = new TreeSet<>();
        for (Method method : MiddleSeat.class.getDeclaredMethods()) {
            if (Modifier.isPublic(method.getModifiers())) {
                StringBuilder line = new StringBuilder();
                line.append(method.getReturnType().getName()).append(' ').append(method.getName()).append('(');
                for (int i = 0; i < method.getParameterCount(); i++) {
                    line.append(i == 0 ? "" : ",").append(method.getParameterTypes()[i].getName());
                }
                got.add(line.append(')').toString());
                names.add(method.getName());
            }
        }
        Due.due("the face " + got, got.equals(new TreeSet<>(Arrays.asList(FACE))), true);
        for (Class<?> type : MiddleSeat.class.getDeclaredClasses()) {
            for (Method method : type.getDeclaredMethods()) {
                Due.due("a public name inside: " + type + " " + method, names.contains(method.getName()), false);
            }
        }
        for (Method method : MiddleSeat.class.getDeclaredMethods()) {
            boolean hidden = Modifier.isPrivate(method.getModifiers());
            Due.due("private or public: " + method, hidden != Modifier.isPublic(method.getModifiers()), true);
            Due.due("a public name for a private method: " + method, hidden && names.contains(method.getName()), false);
        }
        for (Field field : MiddleSeat.class.getDeclaredFields()) {
            boolean open = field.getName().equals("NONE");
            Due.due("private: " + field, Modifier.isPrivate(field.getModifiers()), !open);
        }
        Due.due("final", Modifier.isFinal(MiddleSeat.class.getModifiers()), true);
    }

    private static void classes() {
        Class<?>[] inside = MiddleSeat.class.getDeclaredClasses();
        Due.due("some twelve classes", inside.length + 1 <= 13, true);
        for (Class<?> type : inside) {
            Due.due("static: " + type, Modifier.isStatic(type.getModifiers()), true);
            look(type);
        }
        look(MiddleSeat.class);
    }

    private static void look(Class<?> type) {
        int fields = 0;
        for (Field field : type.getDeclaredFields()) {
            boolean fixed = Modifier.isStatic(field.getModifiers());
            fields += fixed ? 0 : 1;
            Due.due("static is final: " + field, fixed && !Modifier.isFinal(field.getModifiers()), false);
        }
        Due.due("some twenty fields: " + type, fields <= 20, true);
        for (Method method : type.getDeclaredMethods()) {
            Due.due("seven parameters: " + method, method.getParameterCount() <= 7, true);
        }
        for (Constructor<?> made : type.getDeclaredConstructors()) {
            Due.due("seven parameters: " + made, made.getParameterCount() <= 7, true);
        }
    }

    private static void imports(String code) {
        List<String> may = List.of("java.util.Arrays", "java.util.NoSuchElementException");
        Matcher found = Pattern.compile("import\\s+([\\w.*]+)\\s*;").matcher(code);
        while (found.find()) {
            Due.due("import " + found.group(1), may.contains(found.group(1)), true);
        }
    }

    /** Rows are made in field initialisers and in the constructor alone, and else only what is thrown. */
    private static void made(String code) {
        for (String line : code.split("\n")) {
            if (line.matches(".*\\bnew\\b.*")) {
                boolean row = line.matches("\\s*(private |final )+[\\w\\[\\]]+ \\w+ = new .*");
                boolean inConstructor = line.matches(" {8,12}[\\w\\[\\]]+ = new .*");
                boolean thrown = line.matches("\\s*throw new NoSuchElementException\\(\"[a-z ]+\"\\);");
                Due.due("made in passing: " + line, row || inConstructor || thrown, true);
            }
        }
    }

    private static void lengths(String source) {
        String[] lines = source.split("\n");
        int begun = -1;
        for (int i = 0; i < lines.length; i++) {
            boolean head = lines[i].matches(" {4}( {4})?[\\w\\[\\]<> ]+\\([^;]*\\{") && !lines[i].contains("=");
            if (head && !lines[i].matches(" {8}(if|for|while|switch|return|else).*")) {
                begun = i;
            }
            if (begun >= 0 && lines[i].matches(" {4}( {4})?\\}") && lines[i].indexOf('}') == indent(lines[begun])) {
                Due.due("a method of some sixty lines: " + lines[begun], i - begun + 1 <= 60, true);
                begun = -1;
            }
        }
    }

    private static int indent(String line) {
        int at = 0;
        while (at < line.length() && line.charAt(at) == ' ') {
            at++;
        }
        return at;
    }
}
