import java.io.IOException;
import java.lang.reflect.Method;
import java.lang.reflect.Modifier;
import java.nio.file.Files;
import java.nio.file.Path;
import java.util.ArrayList;
import java.util.List;
import java.util.Set;
import java.util.TreeSet;

/** README.md is true of the program: its example answers what it says, and its list of calls is the face. */
public final class ReadmeTest {
    public static void main(String[] args) throws IOException {
        List<String> page = Files.readAllLines(Path.of("README.md"));
        exampleStandsThere(page);
        exampleAnswers();
        callsAreTheFace(page);
        Check.end();
    }

    private static void exampleStandsThere(List<String> page) {
        List<String> starts = List.of("FireflyInn inn = new FireflyInn();", "inn.swarm(4, 2, 30);",
            "int room = inn.open(4);", "boolean burns = inn.lamp(room);", "int guest = inn.stay(room, 3, true);",
            "int seen = inn.pass(2);", "int later = inn.foresee(8, 0);");
        int first = page.indexOf("```java") + 1;
        for (int i = 0; i < starts.size(); i++) {
            Check.same("the example, line " + i, page.get(first + i).startsWith(starts.get(i)), true);
        }
        Check.same("the example's end", page.get(first + starts.size()), "```");
    }

    private static void exampleAnswers() {
        FireflyInn inn = new FireflyInn();
        Check.same("the cell had none", inn.swarm(4, 2, 30), 0);
        int room = inn.open(4);
        Check.same("the room", room, 0);
        Check.same("its lamp burns", inn.room(room, 1), 1);
        Check.same("it is put out", inn.lamp(room), false);
        int guest = inn.stay(room, 3, true);
        Check.same("the guest", guest, 0);
        // The night 0: 30 are seen, 3 taken, then the jar is found, and of 27 come 29; by the moon of 1, 14 of these.
        Check.same("seen in two nights", inn.pass(2), 30 + 29 / 2);
        // From now on a tenth more comes each night, up to 40; the moon is 2, 3, 4, 3, 2, 1, 0, 1.
        int later = 31 / 3 + 34 / 4 + 0 + 40 / 4 + 40 / 3 + 40 / 2 + 40 + 40 / 2;
        Check.told("what would be seen in the next 8", inn, later, () -> inn.foresee(8, 0));
        Check.same("as the page says", later, 121);
    }

    private static void callsAreTheFace(List<String> page) {
        Set<String> told = new TreeSet<>();
        for (String line : page) {
            if (line.startsWith("| `")) {
                told.add(toldIn(line));
            }
        }
        Set<String> due = new TreeSet<>();
        for (Method m : FireflyInn.class.getDeclaredMethods()) {
            if (Modifier.isPublic(m.getModifiers())) {
                due.add(m.getName() + " " + m.getParameterCount() + " " + thrownBy(m));
            }
        }
        Check.same("the calls", told, due);
    }

    /** The name of the call in this line, how many arguments it takes, and the letters of what it throws. */
    private static String toldIn(String line) {
        String[] parts = line.split("\\|");
        String call = parts[1].replace("`", "").trim();
        String arguments = call.substring(call.indexOf('(') + 1, call.indexOf(')'));
        int many = arguments.isEmpty() ? 0 : arguments.split(", ").length;
        List<String> letters = new ArrayList<>();
        for (String thrown : parts[3].trim().split(", ")) {
            if (!thrown.isEmpty()) {
                letters.add(thrown.substring(0, 1));
            }
        }
        return call.substring(0, call.indexOf('(')) + " " + many + " " + letters;
    }

    private static List<String> thrownBy(Method m) {
        List<String> letters = new ArrayList<>();
        for (Class<?> e : m.getExceptionTypes()) {
            letters.add(e == Check.INDEX ? "I" : e == Check.ARGUMENT ? "A" : e == Check.STATE ? "S" : e.getName());
        }
        return letters;
    }
}
