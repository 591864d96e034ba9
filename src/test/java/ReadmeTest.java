import java.io.IOException;
import java.lang.reflect.Method;
import java.nio.file.Files;
import java.nio.file.Path;
import java.util.ArrayList;
import java.util.Collections;
import java.util.Iterator;
import java.util.List;

/** README.md: its example, line by line, and its tables of the calls. */
public final class ReadmeTest {
    private static final Due due = new Due();

    public static void main(String[] args) throws IOException {
        List<String> readme = Files.readAllLines(Path.of("README.md"));
        example(linesOfExample(readme).iterator());
        tables(readme);
        due.end();
    }

    private static List<String> linesOfExample(List<String> readme) {
        int first = readme.indexOf("```java") + 1;
        List<String> rest = readme.subList(first, readme.size());
        return rest.subList(0, Math.max(0, rest.indexOf("```")));
    }

    private static void example(Iterator<String> lines) {
        TraderRights x = new TraderRights();
        due.is("the example's first line", next(lines).compareTo("TraderRights x = new TraderRights();"), 0);
        int house = x.trader();
        shown(lines, "int house = x.trader();", house);
        int boss = x.trader();
        shown(lines, "int boss = x.trader();", boss);
        int clerk = x.trader();
        shown(lines, "int clerk = x.trader();", clerk);
        shown(lines, "x.right(house, 3, TraderRights.NONE, 10, 20);", x.right(house, 3, TraderRights.NONE, 10, 20));
        shown(lines, "x.group(boss, house);", x.group(boss, house));
        shown(lines, "x.may(boss, 3, 5, 12);", x.may(boss, 3, 5, 12));
        shown(lines, "x.may(clerk, 3, 5, 12);", x.may(clerk, 3, 5, 12));
        shown(lines, "x.mandate(boss, clerk, false, 15);", x.mandate(boss, clerk, false, 15));
        shown(lines, "x.may(clerk, 3, 5, 12);", x.may(clerk, 3, 5, 12));
        shown(lines, "x.right(clerk, 0, 5, 0, 100000);", x.right(clerk, 0, 5, 0, 100000));
        shown(lines, "x.may(clerk, 3, 5, 12);", x.may(clerk, 3, 5, 12));
        shown(lines, "x.suspend(boss, 14, true);", x.suspend(boss, 14, true));
        shown(lines, "x.may(boss, 3, 5, 14);", x.may(boss, 3, 5, 14));
        shown(lines, "x.may(clerk, 3, 5, 14);", x.may(clerk, 3, 5, 14));
        shown(lines, "x.two(3, true);", x.two(3, true));
        shown(lines, "x.done(3, 5, 12, boss, clerk);", x.done(3, 5, 12, boss, clerk));
        shown(lines, "x.done(3, 5, 12, boss, boss);", x.done(3, 5, 12, boss, boss));
        shown(lines, "x.letter(26, 4);", x.letter(26, 4));
        shown(lines, "x.check('?');", x.check('?'));
        due.no("the example has more lines", lines.hasNext());
        due.is("AAAABAF", World.letters(x, 26).compareTo("AAAABAF"), 0);
    }

    private static String next(Iterator<String> lines) {
        return lines.hasNext() ? lines.next() : "";
    }

    /** The example's next line has this call, and behind // this answer, alone or with a colon behind it. */
    private static void shown(Iterator<String> lines, String call, Object answer) {
        String line = next(lines);
        String told = line.replaceFirst("^.*; *// ", "").replaceFirst(":.*$", "");
        due.yes(call + " is not the call of: " + line, line.startsWith(call + " "));
        due.yes(call + " answered " + answer + ", but told is: " + line, told.equals(answer.toString()));
    }

    /** Each method of the face has one row, with as many names as it has parameters. */
    private static void tables(List<String> readme) {
        List<String> rows = new ArrayList<>();
        for (String line : readme) {
            if (line.startsWith("| `")) {
                String call = line.substring(3, line.indexOf('`', 3));
                int names = call.endsWith("()") ? 0 : call.split(",").length;
                rows.add(call.substring(0, call.indexOf('(')) + " " + names);
            }
        }
        List<String> face = new ArrayList<>();
        for (Method method : TraderRights.class.getMethods()) {
            if (method.getDeclaringClass() == TraderRights.class) {
                face.add(method.getName() + " " + method.getParameterCount());
            }
        }
        Collections.sort(rows);
        Collections.sort(face);
        due.yes("the tables have " + rows + ", the face has " + face, rows.equals(face));
    }
}
