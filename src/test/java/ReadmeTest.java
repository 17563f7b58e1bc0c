import java.io.IOException;
import java.lang.reflect.Field;
import java.lang.reflect.Method;
import java.lang.reflect.Modifier;
import java.nio.charset.StandardCharsets;
import java.nio.file.Files;
import java.nio.file.Path;
import java.util.Arrays;
import java.util.List;
import java.util.Set;
import java.util.TreeSet;
import java.util.regex.Matcher;
import java.util.regex.Pattern;

/**
 * The calls that README.md shows answer what it tells, it shows each public method and constant, and
 * its tables are those of the class. README.md is looked for in the folder where the test runs.
 */
public final class ReadmeTest {
    private static final int ACTS = 12;
    private static final int WAYS = 7;
    private static final int KINDS = 11;

    private static final Pattern MAKING =
            Pattern.compile("LineOfKin house = new LineOfKin\\(\\);");
    private static final Pattern CONSTANT =
            Pattern.compile("int \\w+ = LineOfKin\\.(\\w+); +// (-?\\d+)(:.*)?");
    private static final Pattern CALL =
            Pattern.compile("house\\.(\\w+)\\(([^()]*)\\); +// (-?\\d+)(:.*)?");
    private static final Pattern ROW =
            Pattern.compile("\\| (\\d+) \\| [^|]+ \\| ([^|]+) \\|");

    private static int wrong = 0;
    private static LineOfKin house;
    private static final Set<String> shown = new TreeSet<>();

    private static void due(String what, Object got, Object want) {
        if (!got.equals(want)) {
            wrong++;
            System.out.println(what + " is " + got + ", due is " + want);
        }
    }

    // ---- the calls

    private static int[] numbers(String told) {
        if (told.isBlank()) {
            return new int[0];
        }
        return Arrays.stream(told.split(", *")).mapToInt(one -> (int) (long) Long.decode(one)).toArray();
    }

    private static Method methodOf(String name, int parameters) {
        for (Method method : LineOfKin.class.getDeclaredMethods()) {
            if (Modifier.isPublic(method.getModifiers()) && method.getName().equals(name)
                    && method.getParameterCount() == parameters) {
                return method;
            }
        }
        return null;
    }

    private static void oneCall(String line, String name, int[] told, int answer)
            throws ReflectiveOperationException {
        Method method = methodOf(name, told.length);
        if (method == null || house == null) {
            due("what can be called in " + line, "nothing", name);
            return;
        }
        Object[] arguments = Arrays.stream(told).boxed().toArray();
        due(line, method.invoke(house, arguments), answer);
        shown.add(name);
    }

    /** A line that is none of the three would not be tested: so it is a fault. */
    private static void oneLine(String line) throws ReflectiveOperationException {
        Matcher call = CALL.matcher(line);
        Matcher constant = CONSTANT.matcher(line);
        if (call.matches()) {
            oneCall(line, call.group(1), numbers(call.group(2)), Integer.parseInt(call.group(3)));
        } else if (constant.matches()) {
            Field field = LineOfKin.class.getField(constant.group(1));
            due(line, field.get(null), Integer.parseInt(constant.group(2)));
            shown.add(constant.group(1));
        } else if (MAKING.matcher(line).matches()) {
            house = new LineOfKin();
            shown.add("LineOfKin");
        } else {
            due("a line of README.md", line, "a call with its answer");
        }
    }

    private static void calls(List<String> lines) throws ReflectiveOperationException {
        boolean inJava = false;
        for (String line : lines) {
            if (line.startsWith("```")) {
                inJava = line.equals("```java");
            } else if (inJava) {
                oneLine(line);
            }
        }
    }

    private static void allIsShown() {
        Set<String> face = new TreeSet<>(Set.of("LineOfKin"));
        for (Method method : LineOfKin.class.getDeclaredMethods()) {
            if (Modifier.isPublic(method.getModifiers())) {
                face.add(method.getName());
            }
        }
        for (Field field : LineOfKin.class.getFields()) {
            face.add(field.getName());
        }
        due("what README.md shows", shown, face);
    }

    // ---- the tables

    /** The last cells of a table, which is known by the first cell of its head. */
    private static String[] cells(List<String> lines, String head, int many) {
        String[] cells = new String[many];
        Arrays.fill(cells, "no row");
        boolean inTable = false;
        for (String line : lines) {
            inTable = line.startsWith("| " + head + " |") || inTable && line.startsWith("|");
            Matcher row = ROW.matcher(line);
            if (inTable && row.matches()) {
                int number = Integer.parseInt(row.group(1));
                due("row " + number + " of " + head, number < many, true);
                cells[Math.min(number, many - 1)] = row.group(2);
            }
        }
        return cells;
    }

    private static void add(StringBuilder list, int number) {
        list.append(list.length() == 0 ? "" : ", ").append(number);
    }

    private static void kindsAreAsInTheTable(List<String> lines) {
        String[] told = cells(lines, "Kind", KINDS);
        for (int kind = 0; kind < KINDS; kind++) {
            LineOfKin asked = new LineOfKin();
            asked.device(kind, 0);
            StringBuilder borne = new StringBuilder();
            for (int way = 2; way < WAYS; way++) {
                if (asked.able(0, way) == 1) {
                    add(borne, way);
                }
            }
            due("what README.md tells of kind " + kind, told[kind], borne.toString());
        }
    }

    private static void waysAreAsInTheTable(List<String> lines) {
        String[] told = cells(lines, "Way", WAYS);
        for (int way = 1; way < WAYS; way++) {
            LineOfKin asked = new LineOfKin();
            StringBuilder acts = new StringBuilder();
            for (int act = 0; act < ACTS; act++) {
                asked.every(act, way, 0);
                if (asked.status() == 0) {
                    add(acts, act);
                }
            }
            due("what README.md tells of way " + way, told[way], acts.toString());
        }
    }

    public static void main(String[] args) throws IOException, ReflectiveOperationException {
        List<String> lines = Files.readAllLines(Path.of("README.md"), StandardCharsets.UTF_8);
        calls(lines);
        allIsShown();
        kindsAreAsInTheTable(lines);
        waysAreAsInTheTable(lines);
        System.out.println(wrong == 0 ? "all answers are as due" : wrong + " answers are not as due");
        if (wrong != 0) {
            System.exit(1);
        }
    }
}
