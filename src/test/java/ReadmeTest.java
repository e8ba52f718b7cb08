import java.io.IOException;
import java.nio.file.Files;
import java.nio.file.Path;
import java.util.regex.Matcher;
import java.util.regex.Pattern;

/** The run that README.md shows: its lines are those below, and the answers are as they say. */
public final class ReadmeTest {
    private static int wrong;

    private static void due(String what, long got, long want) {
        if (got != want) {
            wrong++;
            System.out.println(what + " is " + got + ", README.md says " + want);
        }
    }

    private static void must(boolean holds, String what) {
        if (!holds) {
            wrong++;
            System.out.println("README.md: " + what);
        }
    }

    private static void run() {
        // README.md's run begins
        HopBeams x = new HopBeams();
        x.terms(2, 100, 8, 2);                    // beams, power together, slots a unit waits, slots of a hand-over
        int a = x.cell(40, 10, 1, 0);             // power, rate, class, gateway; the answer is its number: 0
        int b = x.cell(40, 20, 2, 1);             // 1
        int c = x.cell(30, 10, 3, 1);             // 2
        x.forbid(a, b, true);                     // these two harm one another
        int sets = x.sets();                      // 6 are legal: none, a, b, c, a and c, b and c
        int together = x.legal(1 << a | 1 << b);  // 0: not legal

        x.row(0, 0, 3);                           // place 0: a row of three numbers of one byte, all 0
        x.write(0, a, 2);
        x.write(0, b, 1);
        x.write(0, c, 3);
        x.needs(0);                               // a twice, b once, c three times
        int slots = x.fewest();                   // 3, and the frame is those sets:
        int first = x.frame(0);                   // 5 (a and c); frame(1) is 5 too, frame(2) is 6

        x.row(1, 2, 3);                           // place 1: prices, numbers of four bytes
        x.write(1, a, 1);
        x.write(1, b, 1);
        long least = x.proof(1);                  // 3: there are no fewer
        int digits = x.ways(3);                   // 2: a number of two digits
        int tens = x.digit(1);                    // 8
        int ones = x.digit(0);                    // 4: 84 rows of three sets light every cell

        x.row(2, 1, 3);                           // place 2: numbers of two bytes
        x.write(2, a, 5);
        x.write(2, c, 30);
        x.asks(2);                                // so many units come each slot
        int slot = x.go(3);                       // 3: three slots go by, by the frame
        int lit = x.lit();                        // 6: in the last of them b and c
        long sent = x.units(c, 1);                // 30 of c's units are sent
        int wait = x.cellOf(c, 6);                // 60 wait yet
        int dark = x.cellOf(b, 8);                // 2: so many slots at most b stayed dark

        x.rain(c, 1);                             // c wants more power now, and sends half as much
        x.swap(a, 2);                             // a is handed to gateway 2 for two slots
        x.rule(1);                                // on by weight
        x.go(1);
        int heaviest = x.lit();                   // 4: c alone, for nothing waits at b
        // README.md's run ends
        long[] got = {a, b, c, sets, together, slots, first, x.frame(1), x.frame(2), least, digits, tens, ones, slot,
            lit, sent, wait, dark, heaviest, x.cellOf(c, 0), x.cellOf(c, 1), x.cellOf(a, 2), x.cellOf(a, 3)};
        long[] said = {0, 1, 2, 6, 0, 3, 5, 5, 6, 3, 2, 8, 4, 3, 6, 30, 60, 2, 4, 45, 5, 2, 1};
        for (int i = 0; i < said.length; i++) {
            due("answer " + i, got[i], said[i]);
        }
    }

    private static String between(String text, String from, String to) {
        int start = text.indexOf(from);
        int end = start < 0 ? -1 : text.indexOf(to, start + from.length());
        return end < 0 ? "" : text.substring(start + from.length(), end).strip();
    }

    private static void sameLines(String page) throws IOException {
        String own = Files.readString(Path.of("src/test/java/ReadmeTest.java"));
        String here = between(own, "// README.md's run begins", "// README.md's run ends");
        String there = between(page, "```java", "```");
        must(!there.isEmpty() && there.equals(here.replaceAll("(?m)^ {8}", "")), "its run is not the one of this test");
    }

    /** Every call with the names of its arguments, as the class has it. */
    private static void namesEveryCall(String page) throws IOException {
        String code = Files.readString(Path.of("src/main/java/HopBeams.java"));
        Matcher m = Pattern.compile("\\n    public (?:int|long|boolean) (\\w+)\\(([^)]*)\\) \\{").matcher(code);
        int calls = 0;
        while (m.find()) {
            String call = "`" + m.group(1) + "(" + m.group(2).replaceAll("\\b(int|long|boolean) ", "") + ")`";
            must(page.contains(call), "does not name " + call);
            calls++;
        }
        due("calls of the class", calls, 27);
    }

    public static void main(String[] args) throws IOException {
        String page = Files.readString(Path.of("README.md"));
        run();
        sameLines(page);
        namesEveryCall(page);
        System.out.println(wrong == 0 ? "README.md says how it is" : wrong + " faults of README.md");
        if (wrong != 0) {
            System.exit(1);
        }
    }
}
