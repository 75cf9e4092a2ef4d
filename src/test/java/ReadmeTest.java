import java.io.IOException;
import java.lang.reflect.Method;
import java.nio.file.Files;
import java.nio.file.Path;
import java.util.ArrayList;
import java.util.List;
import java.util.Set;
import java.util.TreeSet;
import java.util.regex.Matcher;
import java.util.regex.Pattern;

/** The calls that README.md shows, made in their order on one object, answer what stands behind them. */
public final class ReadmeTest {
    private static final Bench BENCH = new Bench("ReadmeTest");
    private static final Pattern PUT = Pattern.compile("put\\(works, \"(.*)\"\\);");
    private static final Pattern CALL = Pattern.compile("works\\.(\\w+)\\((.*?)\\); *// (true|false|-?\\d+)\\b.*");

    public static void main(String[] args) throws IOException, ReflectiveOperationException {
        BeamPlate works = new BeamPlate();
        Set<String> shown = new TreeSet<>();
        for (String line : Files.readAllLines(Path.of("README.md"))) {
            Matcher put = PUT.matcher(line);
            Matcher call = CALL.matcher(line);
            if (put.matches()) {
                Bench.put(works, put.group(1));
            } else if (call.matches()) {
                shown.add(call.group(1));
                Object got = make(works, call.group(1), call.group(2));
                BENCH.yes(line + " - it answered " + got, String.valueOf(got).equals(call.group(3)));
            } else {
                BENCH.no("neither a text nor a call with its answer: " + line, line.startsWith("works."));
            }
        }
        for (Method m : BeamPlate.class.getMethods()) {
            if (m.getDeclaringClass() == BeamPlate.class) {
                BENCH.yes("README.md shows no " + m.getName(), shown.contains(m.getName()));
            }
        }
        BENCH.finish();
    }

    private static Object make(BeamPlate works, String name, String told) throws ReflectiveOperationException {
        List<Object> values = new ArrayList<>();
        for (String value : told.isEmpty() ? new String[0] : told.split(", ")) {
            boolean truth = value.equals("true") || value.equals("false");
            values.add(truth ? (Object) Boolean.valueOf(value) : (Object) Integer.decode(value));
        }
        for (Method m : BeamPlate.class.getMethods()) {
            if (m.getName().equals(name)) {
                return m.invoke(works, values.toArray());
            }
        }
        return "nothing: no such call";
    }
}
