import java.io.IOException;
import java.lang.reflect.Field;
import java.lang.reflect.Method;
import java.lang.reflect.Modifier;
import java.nio.charset.StandardCharsets;
import java.nio.file.Files;
import java.nio.file.Path;

/** README.md: every call and constant has its row, and the example answers as it says. */
public final class ReadmeTest {
    public static void main(String[] args) throws IOException, IllegalAccessException {
        String page = Files.readString(Path.of("README.md"), StandardCharsets.UTF_8);
        calls(page);
        constants(page);
        example(page);
        Sheets.finish();
    }

    private static void calls(String page) {
        Sheets.due("README the constructor", page.contains("| `FleetSheet()` |"), true);
        for (Method m : FleetSheet.class.getDeclaredMethods()) {
            if (Modifier.isPublic(m.getModifiers())) {
                String row = rowOf(page, m.getName() + "(");
                int start = row.indexOf('(');
                int end = row.indexOf(')');
                String arguments = start < 0 || end < start ? "" : row.substring(start + 1, end);
                int count = arguments.isEmpty() ? 0 : arguments.split(",").length;
                Sheets.due("README has a row of " + m.getName(), !row.isEmpty(), true);
                Sheets.due("README arguments of " + m.getName(), count, m.getParameterCount());
            }
        }
    }

    private static void constants(String page) throws IllegalAccessException {
        for (Field f : FleetSheet.class.getFields()) {
            String row = rowOf(page, f.getName() + "`");
            Sheets.due("README the value of " + f.getName(), row.contains("| " + f.getInt(null) + " |"), true);
        }
    }

    private static String rowOf(String page, String name) {
        for (String line : page.split("\n")) {
            if (line.startsWith("| `" + name)) {
                return line;
            }
        }
        return "";
    }

    private static void example(String page) {
        FleetSheet x = new FleetSheet();
        answer(page, "x.append(0x73686565, 0x74203130, 0x2031303b, 0x666c6565, 0x7420613b);",
            x.append(0x73686565, 0x74203130, 0x2031303b, 0x666c6565, 0x7420613b));
        answer(page, "x.append(0x73686970, 0x20782032, 0x20352034, 0x3b000000, 0);",
            x.append(0x73686970, 0x20782032, 0x20352034, 0x3b000000, 0));
        answer(page, "x.load();", x.load());
        answer(page, "x.course(0, 6);", x.course(0, 6));
        answer(page, "x.append(0x78206c72, 0x3b000000, 0, 0, 0);", x.append(0x78206c72, 0x3b000000, 0, 0, 0));
        answer(page, "x.write(0);", x.write(0));
        answer(page, "x.order(0, 1);", x.order(0, 1));
        answer(page, "x.seal(0, 4711);", x.seal(0, 4711));
        answer(page, "x.run();", x.run());
        answer(page, "x.ship(0, 1);", x.ship(0, 1));
        answer(page, "x.check(0, 0, 4711);", x.check(0, 0, 4711));
        answer(page, "x.writeShips();", x.writeShips());
        Sheets.due("README the written text", page.contains("\"" + Sheets.ships(x) + "\", a byte"), true);
        answer(page, "x.undo();", x.undo());
    }

    /** The line of the example must go on with the answer. */
    private static void answer(String page, String call, Object got) {
        for (String line : page.split("\n")) {
            if (line.startsWith(call)) {
                String told = line.substring(call.length()).trim();
                Sheets.dueText("README " + call, "// " + got + ":", told.substring(0, Math.min(told.length(), got.toString().length() + 4)));
                return;
            }
        }
        Sheets.dueText("README " + call, "no line", "a line");
    }
}
