import java.io.IOException;
import java.lang.reflect.Method;
import java.nio.file.Files;
import java.nio.file.Path;
import java.util.TreeSet;
import java.util.regex.Matcher;
import java.util.regex.Pattern;

/** The rows of README.md answer what stands behind them, its texts are those that are fed, and no call is left out. */
public final class ReadmeTest {
    private static final Pattern BLOCK = Pattern.compile("(?s)```java\n(.*?)```");
    private static final Pattern ROW = Pattern.compile("x\\.(\\w+)\\((.*?)\\);\\s*// (-?\\d+)(?:: (.*))?");
    private static final String MADE = "RingKiln x = new RingKiln();";

    public static void main(String[] args) throws IOException, ReflectiveOperationException {
        String readme = Files.readString(Path.of("README.md"));
        RingKiln x = null;
        int rows = 0;
        Matcher block = BLOCK.matcher(readme);
        while (block.find()) {
            for (String line : block.group(1).split("\n")) {
                Matcher row = ROW.matcher(line);
                if (line.equals(MADE)) {
                    x = new RingKiln();
                } else if (row.matches() && x != null) {
                    rows++;
                    Due.is(line, answer(x, row.group(1), numbers(row.group(2))), Integer.parseInt(row.group(3)));
                    Due.holds("the text that is fed: " + line, !row.group(1).equals("feed")
                            || row.group(4).equals(text(numbers(row.group(2)))));
                } else {
                    Due.holds("a row: " + line, false);
                }
            }
        }
        Due.holds("rows of one object: " + rows, rows > 50 && rows <= 512);
        everyCallIsTold(readme);
        Due.end();
    }

    private static void everyCallIsTold(String readme) {
        String table = readme.substring(readme.indexOf("### All calls"), readme.indexOf("## How it is built"));
        TreeSet<String> names = new TreeSet<>();
        for (Method m : RingKiln.class.getMethods()) {
            if (m.getDeclaringClass() == RingKiln.class) {
                names.add(m.getName());
            }
        }
        Due.is("calls", names.size(), 39);
        for (String name : names) {
            Due.holds("in the table: " + name, table.contains("`" + name + "(") || table.contains("`" + name + "`"));
        }
    }

    private static int answer(RingKiln x, String name, int[] numbers) throws ReflectiveOperationException {
        for (Method m : RingKiln.class.getMethods()) {
            if (m.getName().equals(name) && m.getParameterCount() == numbers.length) {
                Object[] given = new Object[numbers.length];
                for (int i = 0; i < given.length; i++) {
                    given[i] = numbers[i];
                }
                return (int) m.invoke(x, given);
            }
        }
        throw new NoSuchMethodException(name);
    }

    private static int[] numbers(String told) {
        String[] parts = told.isEmpty() ? new String[0] : told.split(", ");
        int[] all = new int[parts.length];
        for (int i = 0; i < all.length; i++) {
            all[i] = Integer.decode(parts[i]);
        }
        return all;
    }

    private static String text(int[] numbers) {
        StringBuilder b = new StringBuilder();
        for (int n : numbers) {
            for (int shift = 24; shift >= 0; shift -= 8) {
                char sign = (char) (n >>> shift & 255);
                b.append(sign == 0 ? "" : sign);
            }
        }
        return b.toString();
    }
}
