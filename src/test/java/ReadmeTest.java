import java.io.IOException;
import java.lang.reflect.Field;
import java.lang.reflect.Method;
import java.lang.reflect.Modifier;
import java.nio.file.DirectoryStream;
import java.nio.file.Files;
import java.nio.file.Path;

/** README.md says how to use the class: its example answers what it says, and its tables leave out nothing. */
public final class ReadmeTest {
    private static final String[] EXAMPLE = {
        "SchemaDesk desk = new SchemaDesk();",
        "int number = desk.type(2, 0);",
        "int big = desk.type(3, 0);",
        "int old = desk.type(9, 0);",
        "desk.field(old, 0, number, -1, false, 0);",
        "int now = desk.type(9, 0);",
        "desk.field(now, 5, big, 0, false, 0);",
        "desk.field(now, 6, number, -1, true, 42);",
        "",
        "desk.number(300);",
        "desk.write(old);",
        "desk.safe(old, now);",
        "desk.read(old, now);",
        "desk.result(-1);",
    };

    public static void main(String[] args) throws IOException {
        String readme = Files.readString(Path.of("README.md"));
        theExampleIsThisOne(readme);
        theExampleAnswersWhatItSays();
        everyKindIsToldWithItsList(readme);
        everyCallAndConstantIsTold(readme);
        everyTestIsTold(readme);
        Check.end();
    }

    private static void theExampleIsThisOne(String readme) {
        String begin = "```java\n";
        int from = readme.indexOf(begin) + begin.length();
        String[] lines = readme.substring(from, readme.indexOf("```", from)).split("\n");
        Check.due("lines of the example", lines.length, EXAMPLE.length);
        for (int i = 0; i < lines.length && i < EXAMPLE.length; i++) {
            String code = lines[i].replaceFirst(" *//.*", "");
            Check.due("line '" + code + "' is the one that is tested", code.equals(EXAMPLE[i]), true);
        }
    }

    private static void theExampleAnswersWhatItSays() {
        SchemaDesk desk = new SchemaDesk();
        int number = desk.type(2, 0);
        int big = desk.type(3, 0);
        int old = desk.type(9, 0);
        desk.field(old, 0, number, -1, false, 0);
        int now = desk.type(9, 0);
        desk.field(now, 5, big, 0, false, 0);
        desk.field(now, 6, number, -1, true, 42);

        desk.number(300);
        Check.due("write", desk.write(old), 2);
        Check.bytes("what was written", desk, 216, 4);
        Check.due("safe", desk.safe(old, now), 1);
        Check.due("read", desk.read(old, now), 2);
        Check.list("what was read", desk, 300, 42);
    }

    private static void everyKindIsToldWithItsList(String readme) {
        String[] kinds = {"NULL", "BOOL", "INT", "LONG", "TEXT", "ENUM", "FIXED", "ARRAY", "UNION", "RECORD"};
        for (int k = 0; k < kinds.length; k++) {
            Check.due("kind " + k + " is told", readme.contains("\n| " + k + " | " + kinds[k]), true);
        }
    }

    private static void everyCallAndConstantIsTold(String readme) {
        for (Method method : SchemaDesk.class.getDeclaredMethods()) {
            if (!Modifier.isPublic(method.getModifiers())) continue;
            Check.due(method.getName() + " is told", readme.contains("\n| `" + method.getName() + "("), true);
        }
        for (Field field : SchemaDesk.class.getDeclaredFields()) {
            if (!Modifier.isPublic(field.getModifiers())) continue;
            Check.due(field.getName() + " is told", readme.contains("\n| `" + field.getName() + "` |"), true);
        }
    }

    private static void everyTestIsTold(String readme) throws IOException {
        try (DirectoryStream<Path> tests = Files.newDirectoryStream(Path.of("src/test/java"), "*Test.java")) {
            for (Path test : tests) {
                String name = test.getFileName().toString().replace(".java", "");
                Check.due(name + " is told", readme.matches("(?s).*\n\\| ([A-Za-z]+, )?" + name + "[ ,].*"), true);
            }
        }
    }
}
