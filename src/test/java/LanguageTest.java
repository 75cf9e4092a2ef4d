import java.io.IOException;
import java.lang.reflect.Field;
import java.lang.reflect.Method;
import java.lang.reflect.Modifier;
import java.nio.file.Files;
import java.nio.file.Path;
import java.util.Arrays;
import java.util.List;
import java.util.Set;
import java.util.TreeSet;
import java.util.regex.Matcher;
import java.util.regex.Pattern;

/** The rules of LANGUAGE.md that can be seen from the source's words and from the class's face. */
public final class LanguageTest {
    private static final Bench BENCH = new Bench("LanguageTest");
    private static final Set<String> FACE = new TreeSet<>(List.of(
        "boolean stuff(int, int, int, int, int)", "boolean plate(int, int, int, int)", "boolean beam(int, boolean)",
        "boolean pitch(int)", "int feed(int, int, int, int, int)", "boolean end(int)", "boolean way(int)", "int fault(int)",
        "int run(int)", "int cell(int, int, int)", "int look(int)", "long heat(int)", "int order(int, int)",
        "int speed(int, int)", "int kind(int, int, int)", "int fill(int, int)", "boolean test(int, int, boolean, int)",
        "int known(int, int, int)", "int sparks()", "int lost(int, int)"));

    public static void main(String[] args) throws IOException {
        face();
        inside();
        String code = withoutComments(Files.readString(Path.of("src/main/java/BeamPlate.java")));
        words(code);
        methods(code);
        BENCH.finish();
    }

    private static void face() {
        Class<?> face = BeamPlate.class;
        BENCH.yes("rule 1: public and final", Modifier.isPublic(face.getModifiers()) && Modifier.isFinal(face.getModifiers()));
        BENCH.due("rule 1: one constructor", face.getDeclaredConstructors().length, 1);
        BENCH.due("rule 1: it is public", face.getConstructors().length, 1);
        Set<String> found = new TreeSet<>();
        Set<String> names = new TreeSet<>();
        for (Method m : face.getDeclaredMethods()) {
            if (Modifier.isPublic(m.getModifiers())) {
                List<String> types = Arrays.stream(m.getParameterTypes()).map(Class::getName).toList();
                found.add(m.getReturnType().getName() + " " + m.getName() + "(" + String.join(", ", types) + ")");
                names.add(m.getName());
            }
        }
        BENCH.yes("rule 1: the face is " + found, found.equals(FACE));
        for (Method m : face.getDeclaredMethods()) {
            int how = m.getModifiers();
            BENCH.yes("rule 1: " + m, Modifier.isPublic(how) || Modifier.isPrivate(how) && !names.contains(m.getName()));
        }
        for (Field f : face.getDeclaredFields()) {
            boolean constant = f.getName().equals("NONE") && Modifier.isPublic(f.getModifiers());
            BENCH.yes("rule 1: " + f, constant || Modifier.isPrivate(f.getModifiers()));
        }
        for (Class<?> c : face.getDeclaredClasses()) {
            for (Method m : c.getDeclaredMethods()) {
                BENCH.no("rule 1: " + m, names.contains(m.getName()));
            }
        }
    }

    private static void inside() {
        Class<?>[] classes = BeamPlate.class.getDeclaredClasses();
        BENCH.yes("rule 11: classes", classes.length + 1 <= 12);
        for (Class<?> c : classes) {
            BENCH.yes("rule 2: static " + c, Modifier.isStatic(c.getModifiers()));
            BENCH.due("rule 2: no classes in " + c, c.getDeclaredClasses().length, 0);
        }
        for (Class<?> c : Arrays.asList(BeamPlate.class.getNestHost().getNestMembers())) {
            long fields = 0;
            for (Field f : c.getDeclaredFields()) {
                boolean isStatic = Modifier.isStatic(f.getModifiers());
                fields += isStatic ? 0 : 1;
                boolean fit = Set.of("int", "long", "boolean", "char", "java.lang.String", "[I", "[J", "[C", "[B")
                    .contains(f.getType().getName());
                BENCH.yes("rule 5: " + f, !isStatic || Modifier.isFinal(f.getModifiers()) && fit);
            }
            BENCH.yes("rule 11: fields of " + c, fields <= 20);
            for (Method m : c.getDeclaredMethods()) {
                BENCH.yes("rule 11: " + m, m.getParameterCount() <= 7);
            }
        }
    }

    private static String withoutComments(String source) {
        return source.replaceAll("(?s)/\\*.*?\\*/", "").replaceAll("//[^\n]*", "");
    }

    private static void words(String code) {
        String[] barred = {"throw", "throws", "try", "catch", "finally", "synchronized", "assert", "package", "double",
            "float", "Object", "native", "volatile", "transient", "hashCode", "toString", "Thread", "Random", "Exception"};
        for (String word : barred) {
            BENCH.no("rules 3, 4, 6: " + word, Pattern.compile("\\b" + word + "\\b").matcher(code).find());
        }
        BENCH.no("rule 2: lambda", code.contains("->"));
        BENCH.no("rule 2: method reference", code.contains("::"));
        Matcher imports = Pattern.compile("import ([^;]*);").matcher(code);
        while (imports.find()) {
            BENCH.yes("rule 4: " + imports.group(), imports.group(1).equals("java.util.Arrays"));
        }
        Matcher library = Pattern.compile("\\b(System|Arrays|Math|Integer|Long)\\.(\\w+)").matcher(code);
        Set<String> fit = Set.of("System.arraycopy", "Arrays.fill", "Math.max", "Math.min", "Math.abs", "Integer.bitCount");
        while (library.find()) {
            BENCH.yes("rule 4: " + library.group(), fit.contains(library.group()));
        }
        BENCH.yes("rule 4: signs 1 to 127", code.chars().allMatch(c -> c > 0 && c < 128));
    }

    private static void methods(String code) {
        String[] lines = code.split("\n");
        Pattern head = Pattern.compile("^( +)[\\w\\[\\] ]*\\b\\w+\\([^;]*\\) \\{$");
        for (int i = 0; i < lines.length; i++) {
            Matcher m = head.matcher(lines[i]);
            if (m.matches() && m.group(1).length() <= 8 && !lines[i].matches(" +(if|for|while|switch|do)\\b.*")) {
                int end = i;
                while (end < lines.length && !lines[end].equals(m.group(1) + "}")) {
                    end++;
                }
                BENCH.yes("rule 11: some sixty lines " + lines[i], end - i <= 60);
            }
        }
    }
}
