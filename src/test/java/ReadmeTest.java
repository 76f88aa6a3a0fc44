import java.io.IOException;
import java.lang.invoke.MethodHandles;
import java.lang.reflect.Constructor;
import java.lang.reflect.Executable;
import java.lang.reflect.Method;
import java.lang.reflect.Modifier;
import java.nio.file.Files;
import java.nio.file.Path;
import java.util.ArrayList;
import java.util.Arrays;
import java.util.List;
import java.util.TreeSet;
import java.util.regex.Matcher;
import java.util.regex.Pattern;
import java.util.spi.ToolProvider;

/** What README.md shows of the class's use is so when it is done, and the tests that it names are those there are. */
public final class ReadmeTest {
    private static final Pattern CLAIM = Pattern.compile("(cpu\\.(\\w+)\\(.*\\)); +// = ([^:\\s]+)(: .+)?");
    private static final Pattern RANGE = Pattern.compile("`(\\w+)` (-?\\d+) \\.\\. (\\d+)");
    private static final Pattern PARAMETER = Pattern.compile("int (\\w+)");
    private static final Pattern TEST_NAME = Pattern.compile("`(\\w+Test)`");

    public static void main(String[] args) throws IOException, ReflectiveOperationException {
        List<String> lines = Files.readAllLines(Path.of("README.md"));
        holdCalls(lines);
        holdExample(lines);
        holdTestNames(lines);
        Bench.due("README.md says for how many calls an object is used",
                String.join(" ", lines).contains("used for at most " + Computer.MOST_CALLS + " calls"), true);
        Bench.due("README.md says what NONE is", lines.contains("The constant `LowPowerCpu.NONE` is " + LowPowerCpu.NONE
                + ". No call throws, whatever its arguments."), true);
        Bench.finish();
    }

    private static void holdCalls(List<String> lines) throws ReflectiveOperationException {
        TreeSet<String> told = new TreeSet<>();
        TreeSet<String> face = face();
        for (String line : rowsBelow(lines, "### The calls")) {
            String[] columns = line.split("\\|", -1);
            String call = columns[1].trim().replace("`", "");
            String signature = call.replaceAll("int \\w+(?=[,)])", "int").replace(", ", ",");
            told.add(signature);
            if (face.contains(signature)) {
                holdArguments(call, columns[2], columns[4].trim());
            }
        }
        Bench.due("the calls that README.md tells", told.toString(), face.toString());
    }

    private static List<String> rowsBelow(List<String> lines, String heading) {
        List<String> rows = new ArrayList<>();
        boolean below = false;
        for (String line : lines) {
            below = line.startsWith("#") ? line.equals(heading) : below;
            if (below && line.startsWith("| `")) {
                rows.add(line);
            }
        }
        return rows;
    }

    private static TreeSet<String> face() {
        TreeSet<String> face = new TreeSet<>();
        for (Constructor<?> c : LowPowerCpu.class.getConstructors()) {
            face.add("LowPowerCpu" + parameters(c));
        }
        for (Method m : LowPowerCpu.class.getDeclaredMethods()) {
            if (Modifier.isPublic(m.getModifiers())) {
                face.add(m.getReturnType() + " " + m.getName() + parameters(m));
            }
        }
        return face;
    }

    private static String parameters(Executable call) {
        return Arrays.toString(call.getParameterTypes()).replace(", ", ",").replace('[', '(').replace(']', ')');
    }

    /** Each argument at the ends of its range is taken, and beyond them answered as the row tells. */
    private static void holdArguments(String call, String takes, String refused) throws ReflectiveOperationException {
        List<int[]> ranges = new ArrayList<>();
        StringBuilder names = new StringBuilder();
        for (Matcher m = RANGE.matcher(takes); m.find(); ) {
            names.append(m.group(1)).append(' ');
            ranges.add(new int[] {Integer.parseInt(m.group(2)), Integer.parseInt(m.group(3))});
        }
        StringBuilder parameters = new StringBuilder();
        for (Matcher m = PARAMETER.matcher(call.substring(call.indexOf('('))); m.find(); ) {
            parameters.append(m.group(1)).append(' ');
        }
        Bench.due("README.md's row of " + call + ": the arguments with a range", names.toString(), parameters.toString());
        Bench.due("README.md's row of " + call + " tells a refusal", !refused.isEmpty(), !ranges.isEmpty());
        for (int i = 0; i < ranges.size(); i++) {
            int low = ranges.get(i)[0];
            int high = ranges.get(i)[1];
            holdArgument(call, ranges, i, refused, false, low, high);
            holdArgument(call, ranges, i, refused, true, low - 1, high + 1, Integer.MIN_VALUE, Integer.MAX_VALUE);
        }
    }

    private static void holdArgument(String call, List<int[]> ranges, int which, String refused, boolean wrong, int... values)
            throws ReflectiveOperationException {
        Class<?>[] types = new Class<?>[ranges.size()];
        Arrays.fill(types, int.class);
        Method method = LowPowerCpu.class.getMethod(call.replaceAll(".* (\\w+)\\(.*", "$1"), types);
        for (int value : values) {
            Object[] arguments = new Object[ranges.size()];
            for (int i = 0; i < arguments.length; i++) {
                arguments[i] = i == which ? value : ranges.get(i)[0];
            }
            String answer = "`" + method.invoke(new LowPowerCpu(), arguments).toString().replaceAll("^-1$", "NONE") + "`";
            Bench.due(call + " with " + Arrays.toString(arguments) + " is refused with " + refused,
                    refused.split(";")[0].equals(answer), wrong);
        }
    }

    /** The pieces of Java are one program, in which each told answer becomes a question to the class. */
    private static void holdExample(List<String> lines) throws IOException, ReflectiveOperationException {
        StringBuilder program = new StringBuilder("final class ReadmeExample {\n    static void show() {\n");
        TreeSet<String> shown = new TreeSet<>();
        boolean java = false;
        for (String line : lines) {
            if (line.startsWith("```")) {
                java = line.equals("```java");
            } else if (java) {
                Matcher claim = CLAIM.matcher(line);
                boolean claims = claim.matches();
                Bench.due("README.md's line '" + line + "' is of the form that tells an answer", claims, line.contains("// ="));
                if (claims) {
                    shown.add(claim.group(2));
                }
                program.append(claims ? question(claim.group(1), claim.group(3)) : line).append('\n');
            }
        }
        Bench.due("the calls whose answers the example shows", shown.toString(),
                "[cyclesOf, mode, peek, pending, poke, raise, reg, run, step]");
        show(program.append("    }\n}\n").toString());
    }

    private static String question(String call, String answer) {
        return "Bench.due(\"README.md: " + call + "\", " + call + ", " + answer + ");";
    }

    private static void show(String program) throws IOException, ReflectiveOperationException {
        Path room = Files.createTempDirectory("readme");
        Path source = room.resolve("ReadmeExample.java");
        Path compiled = room.resolve("ReadmeExample.class");
        try {
            Files.writeString(source, program);
            int failed = ToolProvider.findFirst("javac").orElseThrow().run(System.out, System.out,
                    "-cp", System.getProperty("java.class.path"), "-d", room.toString(), source.toString());
            Bench.due("README.md's example compiles", failed == 0, true);
            if (failed == 0) {
                Class<?> example = MethodHandles.lookup().defineClass(Files.readAllBytes(compiled));
                example.getDeclaredMethod("show").invoke(null);
            }
        } finally {
            Files.deleteIfExists(compiled);
            Files.deleteIfExists(source);
            Files.delete(room);
        }
    }

    private static void holdTestNames(List<String> lines) throws IOException {
        TreeSet<String> told = new TreeSet<>();
        for (String line : rowsBelow(lines, "## Tests")) {
            for (Matcher m = TEST_NAME.matcher(line.split("\\|", -1)[1]); m.find(); ) {
                told.add(m.group(1));
            }
        }
        TreeSet<String> found = new TreeSet<>();
        try (var files = Files.newDirectoryStream(Path.of("src/test/java"), "*Test.java")) {
            for (Path file : files) {
                found.add(file.getFileName().toString().replace(".java", ""));
            }
        }
        Bench.due("the tests that README.md names", told.toString(), found.toString());
    }
}
