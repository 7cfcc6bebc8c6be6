import java.io.ByteArrayOutputStream;
import java.io.IOException;
import java.io.PrintStream;
import java.nio.file.Files;
import java.nio.file.Path;
import java.util.ArrayList;
import java.util.List;

/** The calls that README.md shows are made here, word by word, and print what it says. */
public final class ReadmeTest {
    private static final Check CHECK = new Check("ReadmeTest");
    private static final String PRINTS = "System.out.println(";

    public static void main(String[] args) throws IOException {
        List<String> shown = linesOfJava(Files.readAllLines(Path.of("README.md")));
        List<String> made = trimmed(Files.readAllLines(Path.of("src/test/java/ReadmeTest.java")));
        CHECK.same("lines of Java in README.md, some", shown.size() > 20, true);
        CHECK.same("calls that README.md shows", missing(shown, made), "");
        CHECK.same("what the calls print", printed(), answers(shown));
        CHECK.close();
    }

    private static void course() {
        Foundrymark x = new Foundrymark();              // nothing in it, at the time 0

        int lathe = x.addMachine(3, 5, 100, 20);        // rate, setup, life, repair
        int bar = x.addPart(false, 0);                  // bought, of the family 0
        int bolt = x.addPart(true, 1);                  // made, of the family 1
        x.addComponent(bolt, bar, 2, -1);               // 2 bars for a bolt, for any option
        x.addOperation(bolt, lathe, -1, 4);             // no alternative, 4 of time a piece

        int bars = x.receive(bar, 50, 7, 0, 1);         // 50 pieces at 7, from supplier 0, 1 bad
        System.out.println(x.isHeld(bars));             // false
        System.out.println(x.costOf(bars));             // 350

        int order = x.order(bolt, 10, 0, 60);           // 10 bolts, of the option 0, due at 60
        System.out.println(x.promise(order));           // true
        System.out.println(x.reserved(bars));           // 20
        System.out.println(x.release(order));           // true
        System.out.println(x.rest(bars));               // 30
        System.out.println(x.stateOf(order));           // o
        System.out.println(x.advance(45));              // 45
        System.out.println(x.stateOf(order));           // f
        int bolts = x.lotOf(order);
        System.out.println(x.costOf(bolts));            // 275
        System.out.println(x.deliver(order));           // true
        System.out.println(x.deliveredCost(order));     // 275
        System.out.println(x.isIn(bars, bolts));        // true
        System.out.println(x.lotsIn(order));            // 2
        System.out.println(x.touched(bars));            // 1
        System.out.println(x.inTimeShare());            // 1.0

        int next = x.order(bolt, 10, 0, 90);
        System.out.println(x.promise(next));            // true
        System.out.println(x.hold(bars, true));         // 1
        System.out.println(x.stateOf(next));            // -
        System.out.println(x.isHeld(bolts));            // true
        System.out.println(x.promise(next));            // false
        System.out.println(x.hold(bars, false));        // 0
        System.out.println(x.promise(next));            // true

        try {
            x.receive(bolt, 0, 7, 0, 1);
        } catch (UnsupportedOperationException e) {
            System.out.println("a bolt is made");       // a bolt is made
        } catch (IllegalArgumentException e) {
            System.out.println("a lot of 0 pieces");
        }
        System.out.println(x.lots());                   // 2
    }

    private static String printed() {
        PrintStream before = System.out;
        ByteArrayOutputStream bytes = new ByteArrayOutputStream();
        System.setOut(new PrintStream(bytes));
        try {
            course();
        } finally {
            System.out.flush();
            System.setOut(before);
        }
        return bytes.toString().replace(System.lineSeparator(), "\n");
    }

    /** What the comments behind the printing lines say that is printed. */
    private static String answers(List<String> shown) {
        StringBuilder all = new StringBuilder();
        for (String line : shown) {
            int comment = line.indexOf("// ");
            if (line.startsWith(PRINTS) && comment >= 0) {
                all.append(line.substring(comment + 3)).append('\n');
            }
        }
        return all.toString();
    }

    /** The first line shown that is not made behind those before it, or an empty text. */
    private static String missing(List<String> shown, List<String> made) {
        int from = 0;
        for (String line : shown) {
            int at = made.subList(from, made.size()).indexOf(line);
            if (at < 0) {
                return line;
            }
            from += at + 1;
        }
        return "";
    }

    private static List<String> linesOfJava(List<String> page) {
        List<String> all = new ArrayList<>();
        boolean isJava = false;
        for (String line : trimmed(page)) {
            if (line.startsWith("```")) {
                isJava = line.equals("```java");
            } else if (isJava && !line.isEmpty()) {
                all.add(line);
            }
        }
        return all;
    }

    private static List<String> trimmed(List<String> lines) {
        List<String> all = new ArrayList<>();
        for (String line : lines) {
            all.add(line.trim());
        }
        return all;
    }
}
