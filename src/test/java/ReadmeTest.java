import java.io.IOException;
import java.lang.reflect.Method;
import java.nio.file.Files;
import java.nio.file.Path;
import java.util.Arrays;
import java.util.List;
import java.util.Set;
import java.util.TreeSet;
import java.util.regex.Matcher;
import java.util.regex.Pattern;
import java.util.stream.Collectors;
import java.util.stream.Stream;

/** README.md shows what the class answers: each call in it is made; run where README.md stands. */
public final class ReadmeTest {
    private static final Checks C = new Checks();
    private static final Pattern MADE = Pattern.compile("(PenLines )?pens = new PenLines\\(\\);");
    private static final Pattern CALL = Pattern.compile("pens\\.(\\w+)\\(([-\\d, ]*)\\);\\s+// (-?\\d+|NONE|BAD|STATE|FULL): .+");
    private static final Pattern REFUSAL = Pattern.compile("(?m)^\\| `?([A-Z]+)`? \\| (-\\d+) \\| (?:finding (\\d): )?.+\\|$");

    private static PenLines pens;

    public static void main(String[] args) throws IOException, ReflectiveOperationException {
        String page = Files.readString(Path.of("README.md"));
        callsAreAsShown(page);
        refusalsAreAsShown(page);
        testsAreNamed(page);
        C.end("ReadmeTest");
    }

    private static void callsAreAsShown(String page) throws ReflectiveOperationException {
        Set<String> shown = new TreeSet<>();
        Matcher block = Pattern.compile("(?s)```java\n(.*?)```").matcher(page);
        while (block.find()) {
            for (String line : block.group(1).lines().toList()) {
                Matcher call = CALL.matcher(line);
                if (MADE.matcher(line).matches()) {
                    pens = new PenLines();
                } else if (call.matches() && pens != null) {
                    C.due("README: " + line, answered(call.group(1), call.group(2)), number(call.group(3)));
                    shown.add(call.group(1));
                } else {
                    C.isTrue("README: no call with its answer: " + line, line.isBlank());
                }
            }
        }
        C.isTrue("README shows " + shown, shown.size() >= 20);
    }

    private static int answered(String name, String numbers) throws ReflectiveOperationException {
        Object[] given = Arrays.stream(numbers.split(",")).map(String::strip).filter(one -> !one.isEmpty())
                .map(Integer::valueOf).toArray();
        Class<?>[] types = new Class<?>[given.length];
        Arrays.fill(types, int.class);
        Method method = PenLines.class.getMethod(name, types);
        return (Integer) method.invoke(pens, given);
    }

    private static int number(String answer) {
        switch (answer) {
            case "NONE": return PenLines.NONE;
            case "BAD": return PenLines.BAD;
            case "STATE": return PenLines.STATE;
            case "FULL": return PenLines.FULL;
            default: return Integer.parseInt(answer);
        }
    }

    private static void refusalsAreAsShown(String page) {
        Set<String> named = new TreeSet<>();
        Matcher row = REFUSAL.matcher(page);
        while (row.find()) {
            int shown = Integer.parseInt(row.group(2));
            boolean finding = row.group(3) != null;
            C.due("README: " + row.group(1), shown, finding ? -1000010 - Integer.parseInt(row.group(3)) : number(row.group(1)));
            named.add(row.group(1));
        }
        C.isTrue("README names " + named, named.equals(Set.of("BAD", "STATE", "FULL", "NULL", "PLACE", "KIND", "SIZE", "STORE")));
        C.isTrue("README tells the number of NONE", page.contains("`NONE`, " + PenLines.NONE + ","));
    }

    /** Those of the project's tests that are run, and no others, stand in the table. */
    private static void testsAreNamed(String page) throws IOException {
        Set<String> named = new TreeSet<>();
        String table = page.substring(page.indexOf("| test |"));
        for (String line : table.lines().skip(2).toList()) {
            if (line.startsWith("| ")) {
                named.addAll(List.of(line.substring(2, line.indexOf(" |", 2)).split(", ")));
            }
        }
        Set<String> run = new TreeSet<>();
        try (Stream<Path> files = Files.list(Path.of("src", "test", "java"))) {
            for (Path file : files.collect(Collectors.toList())) {
                if (Files.readString(file).contains("static void main(")) {
                    run.add(file.getFileName().toString().replace(".java", ""));
                }
            }
        }
        C.isTrue("README names the tests " + named + ", run are " + run, named.equals(run));
    }
}
