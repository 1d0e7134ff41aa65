import java.io.IOException;
import java.lang.reflect.InvocationTargetException;
import java.lang.reflect.Method;
import java.nio.file.Files;
import java.nio.file.Path;
import java.util.regex.Matcher;
import java.util.regex.Pattern;

/** The calls that README.md shows, made one after the other, answer what it says of them. */
final class ReadmeTest {
    /** A call, and what its comment says: its answer before a colon, if it has one. */
    private static final Pattern SHOWN =
            Pattern.compile("disk\\.(\\w+)\\((.*)\\); *// (?:(-?\\d+|\\w+Exception): )?.*");

    public static void main(String[] args) throws IOException, IllegalAccessException {
        Checks checks = new Checks("ReadmeTest");
        ShareDisk disk = new ShareDisk();
        int found = 0;
        for (String line : Files.readAllLines(Path.of("README.md"))) {
            Matcher shown = SHOWN.matcher(line);
            if (shown.matches()) {
                found++;
                String want = shown.group(3) == null ? "nothing" : shown.group(3);
                checks.dueText(line, want, answer(disk, shown.group(1), shown.group(2)));
            } else {
                checks.isTrue(line + " is a call that is compared", !line.startsWith("disk."));
            }
        }
        checks.isTrue("README.md shows calls", found > 0);
        checks.end();
    }

    private static String answer(ShareDisk disk, String name, String words)
            throws IllegalAccessException {
        try {
            Object got = named(name).invoke(disk, arguments(words));
            return got == null ? "nothing" : got.toString();
        } catch (InvocationTargetException e) {
            return e.getCause().getClass().getSimpleName();
        }
    }

    private static Method named(String name) {
        for (Method method : ShareDisk.class.getMethods()) {
            if (method.getName().equals(name)) {
                return method;
            }
        }
        throw new IllegalArgumentException("README.md shows a call of no method: " + name);
    }

    private static Object[] arguments(String words) {
        if (words.isEmpty()) {
            return new Object[0];
        }
        String[] each = words.split(", ");
        Object[] arguments = new Object[each.length];
        for (int i = 0; i < each.length; i++) {
            arguments[i] = each[i].equals("true") || each[i].equals("false")
                    ? (Object) Boolean.valueOf(each[i]) : (Object) Integer.valueOf(each[i]);
        }
        return arguments;
    }
}
