import java.io.File;
import java.lang.reflect.Field;
import java.lang.reflect.Method;
import java.lang.reflect.Modifier;
import java.net.URL;
import java.net.URLClassLoader;
import java.nio.file.Files;
import java.nio.file.Path;
import java.util.ArrayList;
import java.util.List;
import java.util.Set;
import java.util.TreeSet;
import java.util.regex.Matcher;
import java.util.regex.Pattern;
import javax.tools.ToolProvider;

/** README.md says what is so: its example answers as it is written, its tables name the face and the tests. */
public final class ReadmeTest {
    private static final Pattern ANSWERED = Pattern.compile("(?m)^x\\.(.+); // (-?\\d+): .*$");

    private static final Due due = new Due("ReadmeTest");

    public static void main(String[] args) throws Exception {
        String page = Files.readString(Path.of("README.md"));
        example(page);
        calls(page);
        numbers(page);
        texts(page);
        tests(page);
        due.end();
    }

    private static void example(String page) throws Exception {
        Matcher block = Pattern.compile("(?s)```java\n(.*?)```").matcher(page);
        due.holds("there is an example", block.find());
        String body = ANSWERED.matcher(block.group(1)).replaceAll("answers.add((long) x.$1);");
        due.holds("it tells what each call answers, but for those of its loop", !body.contains("\nx."));
        List<Long> answers = new ArrayList<>();
        run(body, answers);
        Matcher lines = ANSWERED.matcher(block.group(1));
        int told = 0;
        while (lines.find()) {
            String call = "README: " + lines.group(1);
            due.holds(call + " was asked", told < answers.size());
            if (told < answers.size()) due.is(call, answers.get(told), Long.parseLong(lines.group(2)));
            told++;
        }
        due.holds("it tells some twenty answers", told >= 20);
    }

    private static void run(String body, List<Long> answers) throws Exception {
        Path out = Files.createTempDirectory("readme");
        Path program = out.resolve("Example.java");
        Files.writeString(program, "public final class Example {\n"
            + "public static void run(java.util.List<Long> answers) {\n" + body + "}\n}\n");
        int code = ToolProvider.getSystemJavaCompiler().run(null, null, null, "-d", out.toString(),
            "-cp", System.getProperty("java.class.path"), program.toString());
        due.is("the example compiles", code, 0);
        if (code == 0) {
            URL[] there = {out.toUri().toURL()};
            try (URLClassLoader loader = new URLClassLoader(there, ReadmeTest.class.getClassLoader())) {
                loader.loadClass("Example").getMethod("run", List.class).invoke(null, answers);
            }
        }
        for (File file : out.toFile().listFiles()) Files.delete(file.toPath());
        Files.delete(out);
    }

    private static void calls(String page) {
        Set<String> told = new TreeSet<>();
        Matcher rows = Pattern.compile("(?m)^\\| `([a-zA-Z]+)\\(([a-z, ]*)\\)` \\|").matcher(page);
        while (rows.find()) {
            int numbers = rows.group(2).isEmpty() ? 0 : rows.group(2).split(", ").length;
            due.holds(rows.group(1) + " stands there once", told.add(rows.group(1) + " " + numbers));
        }
        Set<String> face = new TreeSet<>(Set.of("OldLamps 0"));
        for (Method method : OldLamps.class.getDeclaredMethods()) {
            if (Modifier.isPublic(method.getModifiers())) face.add(method.getName() + " " + method.getParameterCount());
        }
        due.holds("the calls are the face's: " + told, told.equals(face));
    }

    private static void numbers(String page) throws IllegalAccessException {
        for (Field field : OldLamps.class.getFields()) {
            String number = field.getName().equals("LOST") ? "the least long" : "" + field.getInt(null);
            due.holds(field.getName() + " is told", page.contains("\n| " + number + " | `" + field.getName() + "` |"));
        }
        OldLamps x = new OldLamps();
        x.sheet(0, 0, 1);
        faultIsTold(page, "NULL", x.put(1, 0, 0), x.fault());
        faultIsTold(page, "CAST", x.coast(0, 1, 0, 0), x.fault());
        faultIsTold(page, "INDEX", x.put(0, 1, 0), x.fault());
        faultIsTold(page, "SIZE", x.sheet(0, 0, -1), x.fault());
    }

    private static void faultIsTold(String page, String name, int answer, int fault) {
        due.holds(name + " is told", page.contains("\n| " + answer + " | " + name + " | fault " + fault + ": "));
    }

    /** The texts that are none: a code, "by", a number. */
    private static void texts(String page) {
        Matcher texts = Pattern.compile("`([^`\n]+)` by (-\\d+)").matcher(page);
        int found = 0;
        while (texts.find()) {
            found++;
            due.is(texts.group(1), Coasts.read(new OldLamps(), texts.group(1)), Integer.parseInt(texts.group(2)));
        }
        due.is("texts that are none", found, 2);
    }

    private static void tests(String page) {
        Set<String> told = new TreeSet<>();
        Matcher names = Pattern.compile("`(\\w+Test)`").matcher(page);
        while (names.find()) told.add(names.group(1));
        Set<String> there = new TreeSet<>();
        for (String file : new File("src/test/java").list()) {
            if (file.endsWith("Test.java")) there.add(file.replace(".java", ""));
        }
        due.holds("the tests are those that there are: " + told, told.equals(there));
    }
}
