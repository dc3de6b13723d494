import java.io.IOException;
import java.lang.reflect.Method;
import java.lang.reflect.Modifier;
import java.nio.file.Files;
import java.nio.file.Path;
import java.util.ArrayList;
import java.util.List;

/** The example of README.md answers what README.md says; run from the top directory. */
public final class ReadmeTests {
    private static final Path README = Path.of("README.md");
    private static final String CALL = "gear.";

    private static final List<String> lines = new ArrayList<>();
    private static int at = 0;
    private static int wrong = 0;

    private static void fault(String what) {
        wrong++;
        System.out.println(what);
    }

    /** The next line of the example is this call, and its comment begins with this answer. */
    private static void line(String call, Object answer) {
        if (at == lines.size()) {
            fault("README.md has no line for: " + call);
            return;
        }
        String line = lines.get(at++);
        int comment = line.indexOf("//");
        String written = comment < 0 ? line : line.substring(0, comment).strip();
        String said = comment < 0 ? "nothing" : line.substring(comment + 2).split(":")[0].strip();
        if (!written.equals(call)) {
            fault("README.md has the line: " + written + ", tested is: " + call);
        }
        if (!said.equals(String.valueOf(answer))) {
            fault("README.md: " + written + " answered " + answer + ", README.md says " + said);
        }
    }

    private static void example() {
        int extended = 7, retracted = 7 << 3, open = 7 << 6, closed = 7 << 9, pressure = 7 << 12, handleSwitch = 7 << 15;
        GearModules gear = new GearModules();
        line("gear.tick(retracted | closed, 1);", gear.tick(retracted | closed, 1));
        line("gear.valves(-1);", gear.valves(-1));
        line("gear.handle(true);", gear.handle(true));
        line("gear.tick(retracted | closed | pressure | handleSwitch, 2);",
                gear.tick(retracted | closed | pressure | handleSwitch, 2));
        line("gear.valves(-1);", gear.valves(-1));
        line("gear.tick(retracted | closed | pressure, 1);", gear.tick(retracted | closed | pressure, 1));
        line("gear.valves(-1);", gear.valves(-1));
        line("gear.tick(retracted | open | pressure, 1);", gear.tick(retracted | open | pressure, 1));
        line("gear.valves(-1);", gear.valves(-1));
        line("gear.lights();", gear.lights());
        line("gear.tick(extended | open | pressure, 2);", gear.tick(extended | open | pressure, 2));
        line("gear.valves(-1);", gear.valves(-1));
        line("gear.tick(extended | closed | pressure, 11);", gear.tick(extended | closed | pressure, 11));
        line("gear.valves(-1);", gear.valves(-1));
        line("gear.lights();", gear.lights());
        line("gear.tick(extended | closed | 1 << 12, 1);", gear.tick(extended | closed | 1 << 12, 1));
        line("gear.sensor(0, 4);", gear.sensor(0, 4));
        line("gear.tick(extended | closed | 1 << 13, 1);", gear.tick(extended | closed | 1 << 13, 1));
        line("gear.sensor(0, 4);", gear.sensor(0, 4));
        line("gear.anomalies(0);", gear.anomalies(0));
        line("gear.entry(0);", gear.entry(0));
        line("gear.fail(0);", gear.fail(0));
        line("gear.word(142, 0);", gear.word(142, 0));
        line("gear.label(gear.word(142, 0));", gear.label(gear.word(142, 0)));
        line("gear.replace(0);", gear.replace(0));
        line("gear.anomalies(0);", gear.anomalies(0));
        line("gear.tick(0, 101);", gear.tick(0, 101));
        if (at != lines.size()) {
            fault("README.md has lines that are not tested: " + lines.subList(at, lines.size()));
        }
    }

    private static void everyCallIsTold(String text) {
        for (Method call : GearModules.class.getDeclaredMethods()) {
            if (Modifier.isPublic(call.getModifiers()) && !text.contains("| `" + call.getName() + "(")) {
                fault("README.md does not tell of " + call.getName());
            }
        }
    }

    public static void main(String[] args) throws IOException {
        for (String line : Files.readAllLines(README)) {
            if (line.startsWith(CALL)) {
                lines.add(line);
            }
        }
        example();
        everyCallIsTold(Files.readString(README));
        System.out.println(wrong == 0 ? at + " lines of README.md are as due" : wrong + " faults in README.md");
        if (wrong != 0) {
            System.exit(1);
        }
    }
}
