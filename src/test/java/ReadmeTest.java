import java.io.ByteArrayOutputStream;
import java.io.IOException;
import java.io.PrintStream;
import java.nio.file.Files;
import java.nio.file.Path;
import java.util.ArrayList;
import java.util.List;

/** The example of README.md stands here too, so that it is run: it must print what its comments say. */
public final class ReadmeTest {
    private static final String OPEN = "// README {";
    private static final String CLOSE = "// README }";
    private static final String PRINT = "System.out.println(";

    // README {
    static int path(int... names) {
        int path = 0;
        for (int i = 0; i < names.length; i++) {
            path |= names[i] + 1 << 7 * i;
        }
        return path;
    }
    // README }

    private static void example() {
        // README {
        LensPaths x = new LensPaths();
        System.out.println(x.count(0));                       // 1
        System.out.println(x.about(0, 0, 3));                 // 0
        // README }

        // README {
        int minutes = path(0);
        int marks = path(1);
        int place = path(2);
        int room = path(2, 4);
        x.field(minutes, 0, 0, 500);                          // a number from 0 to 500
        x.field(marks, 1, 1, 6);                              // a list of numbers from 1 to 6
        x.field(place, 2, 0, 0);                              // a record type, without bounds
        x.field(room, 0, 1, 99);                              // a number in that record
        System.out.println(x.about(0, 0, 3));                 // 4
        System.out.println(x.about(0, room, 2));              // 99
        // README }

        // README {
        x.begin(0);
        x.primitive(5, minutes, 60, 3, 0);                    // SPLIT by 60, the rest gets the name 3
        x.primitive(4, room, 0, 0, 0);                        // LIFT the room out of the place
        x.primitive(2, place, 0, 0, 0);                       // REMOVE the place, which is empty now
        x.primitive(8, marks, 0, 0, 0);                       // SORT the marks
        System.out.println(x.end(LensPaths.NONE));            // 1
        System.out.println(x.about(1, minutes, 2));           // 8
        System.out.println(x.about(1, path(4), 0));           // 0
        // README }

        // README {
        int h = x.record(0);
        System.out.println(x.get(h, room));                   // 1
        x.set(h, minutes, 135);
        x.set(h, room, 12);
        x.put(h, marks, 0, 5);
        x.put(h, marks, 1, 2);
        System.out.println(x.size(h, marks));                 // 2
        int other = x.copy(h);
        System.out.println(x.same(h, other));                 // true
        // README }

        // README {
        System.out.println(x.route(0, 1, 1));                 // 1
        System.out.println(x.translate(h, 1));                // 1
        // 135 minutes are 2 hours and 15 minutes; the marks as they were are kept.
        System.out.println(x.get(h, minutes));                // 2
        System.out.println(x.get(h, path(3)));                // 15
        System.out.println(x.get(h, path(4)));                // 12
        System.out.println(x.item(h, marks, 0));              // 2
        System.out.println(x.kept(h));                        // 1

        // The way back takes what was changed, and brings what was kept.
        x.set(h, path(3), 20);
        x.translate(h, 0);
        System.out.println(x.get(h, minutes));                // 140
        System.out.println(x.item(h, marks, 0));              // 5
        System.out.println(x.kept(h));                        // 0

        // 8 hours and 59 minutes are more than 500 minutes.
        x.translate(other, 1);
        x.set(other, minutes, 8);
        x.set(other, path(3), 59);
        try {
            x.translate(other, 0);
        } catch (ArithmeticException e) {
            System.out.println(x.version(other));             // 1
        }
        // README }

        // README {
        System.out.println(x.clash(0));                       // -1
        // Step 1 does the same in another order.
        x.begin(0);
        x.primitive(8, marks, 0, 0, 0);
        x.primitive(4, room, 0, 0, 0);
        x.primitive(2, place, 0, 0, 0);
        x.primitive(5, minutes, 60, 3, 0);
        x.end(1);
        System.out.println(x.clash(1));                       // 0
        // Step 2 leaves the marks as they are.
        x.begin(0);
        x.primitive(4, room, 0, 0, 0);
        x.primitive(2, place, 0, 0, 0);
        x.primitive(5, minutes, 60, 3, 0);
        x.end(1);
        System.out.println(x.clash(2));                       // 1
        // README }
    }

    /** The lines between two marks, whatever stands before and behind them. */
    private static List<String> between(String file, String open, String close) throws IOException {
        List<String> lines = new ArrayList<>();
        boolean inside = false;
        for (String line : Files.readAllLines(Path.of(file))) {
            String words = line.strip();
            if (words.equals(open) || words.equals(close)) {
                inside = words.equals(open);
            } else if (inside && !words.isEmpty()) {
                lines.add(words);
            }
        }
        return lines;
    }

    private static List<String> commentsOfPrints(List<String> lines) {
        List<String> comments = new ArrayList<>();
        for (String line : lines) {
            if (line.startsWith(PRINT)) {
                comments.add(line.substring(line.indexOf("// ") + 3));
            }
        }
        return comments;
    }

    private static List<String> printed() {
        PrintStream before = System.out;
        ByteArrayOutputStream bytes = new ByteArrayOutputStream();
        System.setOut(new PrintStream(bytes, true));
        try {
            example();
        } finally {
            System.setOut(before);
        }
        return bytes.toString().lines().toList();
    }

    private static boolean agree(String what, List<String> due, List<String> got) {
        for (int i = 0; i < Math.max(due.size(), got.size()); i++) {
            String one = i < due.size() ? due.get(i) : "nothing";
            String other = i < got.size() ? got.get(i) : "nothing";
            if (!one.equals(other)) {
                System.out.println(what + ", line " + (i + 1) + " of the example: " + other + ", due is " + one);
                return false;
            }
        }
        return true;
    }

    public static void main(String[] args) throws IOException {
        List<String> here = between("src/test/java/ReadmeTest.java", OPEN, CLOSE);
        List<String> told = between("README.md", "```java", "```");
        boolean holds = agree("README.md is not as this test", here, told)
                & agree("it prints something else", commentsOfPrints(told), printed());
        System.out.println(holds ? told.size() + " lines of README.md hold" : "README.md does not hold");
        if (!holds) {
            System.exit(1);
        }
    }
}
