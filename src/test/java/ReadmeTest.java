import java.io.IOException;
import java.lang.reflect.InvocationTargetException;
import java.lang.reflect.Method;
import java.lang.reflect.Modifier;
import java.nio.charset.StandardCharsets;
import java.nio.file.Files;
import java.nio.file.Path;
import java.util.ArrayList;
import java.util.List;
import java.util.regex.Matcher;
import java.util.regex.Pattern;

/** README.md tells of each call of the face, and the calls of its example answer what it says. */
public final class ReadmeTest {
    private static final Pattern ROW = Pattern.compile("\\| `(\\w+)\\(([^)]*)\\)` \\|.*");
    private static final Pattern CALL =
            Pattern.compile("loader\\.(\\w+)\\(([^)]*)\\); +// (-?\\w+)(,.*|; .*)?");
    private static final String MADE = "CatalogueLoader loader = new CatalogueLoader();";

    private static final List<String> FAULTS = new ArrayList<>();

    public static void main(String[] args) throws IOException, IllegalAccessException {
        List<String> lines = Files.readAllLines(Path.of("README.md"), StandardCharsets.UTF_8);
        tellsEachCall(lines);
        exampleAnswers(example(lines));
        for (String fault : FAULTS) {
            System.out.println(fault);
        }
        System.exit(FAULTS.isEmpty() ? 0 : 1);
    }

    private static void tellsEachCall(List<String> lines) {
        List<String> told = new ArrayList<>();
        for (String line : lines) {
            Matcher row = ROW.matcher(line);
            if (row.matches()) {
                told.add(row.group(1) + " " + parts(row.group(2)).length);
            }
        }
        List<String> face = new ArrayList<>();
        for (Method method : CatalogueLoader.class.getDeclaredMethods()) {
            if (Modifier.isPublic(method.getModifiers())) {
                face.add(method.getName() + " " + method.getParameterCount());
            }
        }
        told.sort(null);
        face.sort(null);
        if (!told.equals(face)) {
            FAULTS.add("README.md tells of the calls " + told + ", due is " + face);
        }
    }

    private static List<String> example(List<String> lines) {
        int from = lines.indexOf("```java") + 1;
        int to = from;
        while (to < lines.size() && !lines.get(to).equals("```")) {
            to++;
        }
        return lines.subList(from, to);
    }

    private static void exampleAnswers(List<String> example) throws IllegalAccessException {
        if (example.size() < 2 || !example.get(0).equals(MADE)) {
            FAULTS.add("README.md has no example that begins with: " + MADE);
            return;
        }
        CatalogueLoader loader = new CatalogueLoader();
        for (String line : example.subList(1, example.size())) {
            Matcher call = CALL.matcher(line);
            String got = call.matches() ? answer(loader, call.group(1), parts(call.group(2))) : "not a call";
            if (!call.matches() || !got.equals(call.group(3))) {
                FAULTS.add("README.md: " + line + " answered " + got);
            }
        }
    }

    private static String[] parts(String texts) {
        return texts.isEmpty() ? new String[0] : texts.split(", ");
    }

    private static String answer(CatalogueLoader loader, String name, String[] texts) throws IllegalAccessException {
        for (Method method : CatalogueLoader.class.getMethods()) {
            if (method.getName().equals(name) && method.getParameterCount() == texts.length) {
                Object[] values = new Object[texts.length];
                for (int i = 0; i < texts.length; i++) {
                    values[i] = method.getParameterTypes()[i] == boolean.class
                            ? (Object) Boolean.valueOf(texts[i]) : Integer.valueOf(texts[i]);
                }
                try {
                    return String.valueOf(method.invoke(loader, values));
                } catch (InvocationTargetException e) {
                    return e.getCause().getClass().getSimpleName();
                }
            }
        }
        return "no such call";
    }
}
