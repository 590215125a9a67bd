import java.lang.reflect.Field;
import java.lang.reflect.Method;
import java.lang.reflect.Modifier;
import java.nio.charset.StandardCharsets;
import java.nio.file.Files;
import java.nio.file.Path;
import java.util.ArrayList;
import java.util.List;
import java.util.regex.Matcher;
import java.util.regex.Pattern;

/** README.md shows the class as it is: its examples answer as told there, and no call of the face is left out. */
public final class ReadmeTest {
    private static final Pattern CALL = Pattern.compile("hall\\.(\\w+)\\((.*?)\\); +// (-?\\w+).*");
    private static final Pattern ROW = Pattern.compile("\\| `(\\w+)\\((.*?)\\)` \\|.*");

    private final Due due = new Due("ReadmeTest");
    private final List<String> lines;

    private ReadmeTest() throws Exception {
        lines = Files.readAllLines(Path.of("README.md"), StandardCharsets.UTF_8);
    }

    private void examples() {
        TicketHall hall = new TicketHall();
        int blocks = 0;
        int calls = 0;
        boolean inside = false;
        for (String line : lines) {
            if (line.startsWith("```")) {
                inside = line.equals("```java");
            } else if (inside && line.equals("TicketHall hall = new TicketHall();")) {
                hall = new TicketHall();
                blocks++;
            } else if (inside) {
                example(hall, line);
                calls++;
            }
        }
        due.is("blocks with examples", blocks, 3);
        due.holds("the examples are read: " + calls, calls > 40);
    }

    private void example(TicketHall hall, String line) {
        Matcher told = CALL.matcher(line);
        due.holds("a call and its answer: " + line, told.matches());
        if (told.matches()) {
            Call call = new Call(told.group(1) + " " + numbers(told.group(2)) + " = " + told.group(3));
            due.is(line, call.on(hall), call.due);
        }
    }

    /** What stands between the brackets, as Call writes it; 'p' is the number of that sign. */
    private static String numbers(String given) {
        StringBuilder all = new StringBuilder();
        for (String one : given.split(", ")) {
            all.append(one.startsWith("'") ? "" + (int) one.charAt(1) : one).append(' ');
        }
        return all.toString().trim();
    }

    private void rows() {
        List<String> told = new ArrayList<>();
        for (String line : lines) {
            Matcher row = ROW.matcher(line);
            if (row.matches()) {
                int many = row.group(2).isEmpty() ? 0 : row.group(2).split(", ").length;
                told.add(row.group(1) + " of " + many);
            }
        }
        int calls = 0;
        for (Method m : TicketHall.class.getDeclaredMethods()) {
            if (Modifier.isPublic(m.getModifiers())) {
                calls++;
                due.holds("a row tells " + m.getName(), told.contains(m.getName() + " of " + m.getParameterCount()));
            }
        }
        due.is("rows that tell calls", told.size(), calls);
    }

    private void constants() throws Exception {
        for (Field f : TicketHall.class.getDeclaredFields()) {
            if (Modifier.isPublic(f.getModifiers())) {
                String row = "| " + f.get(null) + " | `TicketHall." + f.getName() + "` |";
                due.holds("a row begins " + row, lines.stream().anyMatch(line -> line.startsWith(row)));
            }
        }
    }

    public static void main(String[] args) throws Exception {
        ReadmeTest test = new ReadmeTest();
        test.examples();
        test.rows();
        test.constants();
        test.due.end();
    }
}
