import java.io.IOException;
import java.lang.reflect.Field;
import java.lang.reflect.Method;
import java.lang.reflect.Modifier;
import java.nio.file.Files;
import java.nio.file.Path;

/** README.md: its example answers what its comments say, and its tables name the whole face and every test. */
public final class ReadmeTest {
    public static void main(String[] args) throws IOException {
        String readme = Files.readString(Path.of("README.md"));
        example();
        exampleIsTheReadmes(readme);
        namesTheFace(readme);
        namesTheTests(readme);
        Check.finish();
    }

    private static void example() {
        RegisterSealer machine = new RegisterSealer(7, -3);
        int key = machine.create(1234L);
        Check.due("key", key, 0);
        int session = machine.begin(99L);
        Check.due("session", session, 0);
        Check.due("measured", machine.extend(0, 5L), true);

        Check.due("proof for SEAL", machine.prove(1234L, session, 1, 3, 777L), true);
        int blob = machine.seal(session, key, 3, 777L);
        Check.due("blob", blob, 0);

        Check.due("proof for UNSEAL", machine.prove(1234L, session, 2, blob, 0L), true);
        Check.due("proven", machine.unseal(session, blob), 0);
        Check.due("the data", machine.output(), 777);

        Check.due("not proven", machine.unseal(session, blob), RegisterSealer.DENIED);
        Check.due("output then", machine.output(), 0);
        Check.due("failures then", machine.failures(), 1);

        Check.due("measured", machine.extend(1, 6L), true);
        Check.due("proof for UNSEAL", machine.prove(1234L, session, 2, blob, 0L), true);
        Check.due("register 1 extended", machine.unseal(session, blob), RegisterSealer.POLICY);

        Check.due("proof for QUOTE", machine.prove(1234L, session, 3, 255, 50L), true);
        Check.due("proven", machine.quote(session, key, 255, 50L), 0);
        Check.due("the signature", machine.output(), Check.mac(1234L, 255, machine.digest(255), 50L));
    }

    // Each statement of the example must stand above, in the same order: so the two can't drift apart.
    private static void exampleIsTheReadmes(String readme) throws IOException {
        String own = Files.readString(Path.of("src/test/java/ReadmeTest.java"));
        String code = readme.substring(readme.indexOf("```java") + 7);
        int statements = 0;
        int at = 0;
        for (String line : code.substring(0, code.indexOf("```")).split("\n")) {
            int end = line.indexOf(';');
            if (end >= 0) {
                String statement = line.substring(0, end);
                int found = own.indexOf(statement, at);
                Check.due("README.md's " + statement + " is tried here", found >= 0, true);
                at = found < 0 ? at : found + statement.length();
                statements++;
            }
        }
        Check.due("README.md has an example", statements > 0, true);
    }

    private static void namesTheFace(String readme) {
        for (Method method : RegisterSealer.class.getDeclaredMethods()) {
            if (Modifier.isPublic(method.getModifiers())) {
                String row = "| `" + method.getName() + "(";
                Check.due("README.md has a row " + row, readme.contains(row), true);
            }
        }
        for (Field field : RegisterSealer.class.getDeclaredFields()) {
            if (Modifier.isPublic(field.getModifiers())) {
                String row = "| `" + field.getName() + "` | " + worth(field) + " |";
                Check.due("README.md has a row " + row, readme.contains(row), true);
            }
        }
    }

    private static long worth(Field constant) {
        try {
            return constant.getLong(null);
        } catch (IllegalAccessException hidden) {
            throw new IllegalStateException(hidden);
        }
    }

    private static void namesTheTests(String readme) {
        for (String file : new java.io.File("src/test/java").list()) {
            String name = file.substring(0, file.indexOf('.'));
            String named = name.endsWith("Test") ? "| " + name + " |" : "`" + name + "`";
            Check.due("README.md names " + name, readme.contains(named), true);
        }
    }
}
