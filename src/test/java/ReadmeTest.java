import java.io.IOException;
import java.lang.reflect.InvocationTargetException;
import java.lang.reflect.Method;
import java.lang.reflect.Modifier;
import java.nio.file.Files;
import java.nio.file.Path;
import java.util.Arrays;
import java.util.Set;
import java.util.TreeSet;
import java.util.regex.Matcher;
import java.util.regex.Pattern;

/** Makes the calls that README.md shows, and compares each answer with the one that it tells. */
public final class ReadmeTest {
    private static final Pattern MADE =
        Pattern.compile("LibraryDisk disk = new LibraryDisk\\((-?\\d+)\\); +// .+");
    private static final Pattern CALL =
        Pattern.compile("disk\\.(\\w+)\\(((?:-?\\d+(?:, (?!\\)))?)*)\\); +// (?:([\\w -]+): )?.+");

    private LibraryDisk disk = null;
    /** The calls and the answers by name that are shown, so that none of the face is missing. */
    private final Set<String> shown = new TreeSet<>();

    public static void main(String[] args) throws IOException, IllegalAccessException {
        ReadmeTest test = new ReadmeTest();
        boolean inExample = false;
        for (String line : Files.readAllLines(Path.of("README.md"))) {
            Check.part("README.md, " + line);
            if (line.startsWith("```")) {
                inExample = line.equals("```java");
            } else if (inExample) {
                test.follow(line);
            }
        }
        test.dueAllShown();
        Check.finish();
    }

    private void follow(String line) throws IllegalAccessException {
        Matcher made = MADE.matcher(line);
        if (made.matches()) {
            disk = new LibraryDisk(Integer.parseInt(made.group(1)));
            return;
        }
        Matcher call = CALL.matcher(line);
        if (disk == null || !call.matches()) {
            Check.fault("the line can't be followed");
            return;
        }
        String told = call.group(3) == null ? "nothing" : call.group(3);
        String got = answer(call.group(1), numbers(call.group(2)));
        shown.add(call.group(1));
        shown.add(told);
        if (!got.equals(told) && !got.equals(valueOf(told))) {
            Check.fault("it answered " + got);
        }
    }

    private static Object[] numbers(String text) {
        String[] parts = text.isEmpty() ? new String[0] : text.split(", ");
        return Arrays.stream(parts).map(Integer::valueOf).toArray();
    }

    private String answer(String name, Object[] numbers) throws IllegalAccessException {
        Class<?>[] types = new Class<?>[numbers.length];
        Arrays.fill(types, int.class);
        try {
            Object got = LibraryDisk.class.getMethod(name, types).invoke(disk, numbers);
            return got == null ? "nothing" : got.toString();
        } catch (InvocationTargetException e) {
            return "throws " + e.getCause().getClass().getSimpleName();
        } catch (NoSuchMethodException e) {
            return "no such call";
        }
    }

    private static String valueOf(String told) {
        switch (told) {
            case "NONE": return Integer.toString(LibraryDisk.NONE);
            case "RANGE": return Integer.toString(LibraryDisk.RANGE);
            case "STATE": return Integer.toString(LibraryDisk.STATE);
            case "FULL": return Integer.toString(LibraryDisk.FULL);
            default: return told;
        }
    }

    private void dueAllShown() {
        Check.part("README.md");
        Set<String> due = new TreeSet<>(Arrays.asList("NONE", "RANGE", "STATE", "FULL"));
        due.add("throws ArrayIndexOutOfBoundsException");
        for (Method method : LibraryDisk.class.getDeclaredMethods()) {
            if (Modifier.isPublic(method.getModifiers())) {
                due.add(method.getName());
            }
        }
        due.removeAll(shown);
        if (!due.isEmpty()) {
            Check.fault("it shows no call of " + due);
        }
    }
}
