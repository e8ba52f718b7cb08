import java.io.IOException;
import java.nio.file.Files;
import java.nio.file.Path;
import java.util.ArrayList;
import java.util.LinkedHashMap;
import java.util.List;
import java.util.Map;
import java.util.function.Consumer;
import java.util.function.ToLongBiFunction;
import java.util.function.ToLongFunction;
import java.util.regex.Matcher;
import java.util.regex.Pattern;

/**
 * For tests that go through the document sentence by sentence: each one is quoted, and what it
 * says is tried at its edges. At the end the quotes are held against the document, so that no
 * sentence of a section is left out.
 */
abstract class Sentences {
    private static final Path DOCUMENT = Path.of("../shared/DOC.md");
    static final int BIG = Integer.MAX_VALUE;
    static final int SMALL = Integer.MIN_VALUE;
    static final int NONE = HopBeams.NONE;
    private static final Map<String, List<String>> SAID = new LinkedHashMap<>();
    private static String section;
    static String sentence;
    private static int wrong;

    static void says(String where, String what) {
        section = where;
        sentence = what;
        SAID.computeIfAbsent(where, k -> new ArrayList<>()).add(what);
    }

    static void fail(String what) {
        wrong++;
        System.out.println(section + ", \"" + sentence + "\": " + what);
    }

    static void due(String call, long got, long want) {
        if (got != want) {
            fail(call + " answered " + got + ", due is " + want);
        }
    }

    static void due(String call, boolean got, boolean want) {
        due(call, got ? 1 : 0, want ? 1 : 0);
    }

    /** How many the numbers are together. */
    static long lay(HopBeams x, int place, int width, long... numbers) {
        long together = 0;
        due("row", x.row(place, width, numbers.length), 0);
        for (int i = 0; i < numbers.length; i++) {
            due("write", x.write(place, i, numbers[i]), 0);
            together += numbers[i];
        }
        return together;
    }

    static void frame(HopBeams x, long... sets) {
        lay(x, 0, 3, sets);
        due("frameOf", x.frameOf(0), sets.length);
    }

    static void needs(HopBeams x, long... needs) {
        long together = lay(x, 0, 3, needs);
        due("needs", x.needs(0), together);
    }

    static void asks(HopBeams x, long... asks) {
        long together = lay(x, 0, 3, asks);
        due("asks", x.asks(0), together);
    }

    static void dueFrame(HopBeams x, int... sets) {
        due("count(7)", x.count(7), sets.length);
        for (int i = 0; i < sets.length; i++) {
            due("frame(" + i + ")", x.frame(i), sets[i]);
        }
        due("frame(" + sets.length + ")", x.frame(sets.length), NONE);
    }

    static void dueRow(HopBeams x, int place, int... numbers) {
        due("frameOf", x.frameOf(place), numbers.length);
        dueFrame(x, numbers);
    }

    static void dueLit(HopBeams x, int... sets) {
        for (int set : sets) {
            int slot = x.count(5);
            due("go(1)", x.go(1), slot + 1);
            due("lit() of slot " + slot, x.lit(), set);
        }
    }

    static void dueWays(HopBeams x, int slots, String number) {
        due("ways(" + slots + ")", x.ways(slots), number.length());
        for (int i = 0; i < number.length(); i++) {
            due("digit(" + i + ") of " + number, x.digit(i), number.charAt(number.length() - 1 - i) - '0');
        }
        due("digit(" + number.length() + ")", x.digit(number.length()), 0);
    }

    static HopBeams cells(int n) {
        HopBeams x = new HopBeams();
        for (int c = 0; c < n; c++) {
            due("cell", x.cell(10, 10, 1, 0), c);
        }
        return x;
    }

    static HopBeams cells(int n, int... forbiddenPairs) {
        HopBeams x = cells(n);
        for (int i = 0; i < forbiddenPairs.length; i += 2) {
            due("forbid", x.forbid(forbiddenPairs[i], forbiddenPairs[i + 1], true), true);
        }
        return x;
    }

    static HopBeams oneCell(int power, int rate) {
        HopBeams x = new HopBeams();
        due("cell", x.cell(power, rate, 1, 0), 0);
        return x;
    }

    /** Nothing of it is as in a new object, so that whatever a refused call changes is seen. */
    static HopBeams rich() {
        HopBeams x = new HopBeams();
        x.terms(3, 90, 5, 3);
        x.cell(20, 7, 2, 0);
        x.cell(30, 9, 1, 1);
        x.cell(40, 11, 3, 2);
        x.cell(25, 5, 9, 0);
        x.forbid(0, 1, true);
        x.rain(2, 1);
        x.gateway(1, 2, true);
        lay(x, 0, 0, 2, 1, 0, 3, 8);
        lay(x, 1, 3, 1, 2, 4, 8, 6, 9, 12);
        lay(x, 2, 1);
        x.needs(0);
        x.asks(1);
        x.fewest();
        x.rule(1);
        x.go(7);
        x.ways(5);
        x.swap(3, 1);
        x.go(1);
        return x;
    }

    /** All that can be seen of an object; it is of no use behind that. */
    private static List<Long> view(HopBeams x) {
        List<Long> seen = new ArrayList<>();
        viewLand(x, seen);
        for (int i = 0; i < 12; i++) {
            seen.add((long) x.digit(i));
            seen.add((long) x.frame(i));
        }
        for (int p = 0; p < 4; p++) {
            for (int to = 0; to < 4; to++) {
                seen.add((long) x.paste(p, 0, to, 0, 0));
            }
            seen.add(x.proof(p));
            seen.add((long) x.frameOf(p));
            for (int i = 0; i < 8; i++) {
                seen.add((long) x.frame(i));
            }
        }
        for (int p = 0; p < 4; p++) {
            for (int i = 0; i < 9; i++) {
                seen.add((long) x.write(p, i, 1));
            }
        }
        seen.add((long) x.go(1));
        seen.add((long) x.lit());
        return seen;
    }

    private static void viewLand(HopBeams x, List<Long> seen) {
        for (int what = 0; what < 10; what++) {
            seen.add((long) x.count(what));
        }
        for (int g = 0; g < 3; g++) {
            for (int what = 0; what < 3; what++) {
                seen.add((long) x.gatewayOf(g, what));
            }
        }
        for (int c = 0; c < x.count(0); c++) {
            for (int what = 0; what < 13; what++) {
                seen.add((long) x.cellOf(c, what));
            }
            for (int what = 0; what < 3; what++) {
                seen.add(x.units(c, what));
            }
        }
        seen.add((long) x.lit());
        seen.add((long) x.sets());
    }

    /** The call answers so, and all that can be seen of the object is as without it. */
    static void refuse(String call, long want, Consumer<HopBeams> ahead, ToLongFunction<HopBeams> refused) {
        HopBeams calm = rich();
        ahead.accept(calm);
        HopBeams x = rich();
        ahead.accept(x);
        due(call, refused.applyAsLong(x), want);
        if (!view(x).equals(view(calm))) {
            fail(call + " changed something");
        }
    }

    static void refuse(String call, long want, ToLongFunction<HopBeams> refused) {
        refuse(call, want, x -> { }, refused);
    }

    static long bit(boolean b) {
        return b ? 1 : 0;
    }

    /** What is from least to most is taken, what is beyond is refused. */
    static void bounds(String call, int least, int most, long want, ToLongBiFunction<HopBeams, Integer> one) {
        for (int v : new int[] {least, most}) {
            if (one.applyAsLong(rich(), v) == want) {
                fail(call + " refused " + v);
            }
        }
        for (int v : new int[] {least - 1, most + 1, SMALL, BIG}) {
            refuse(call + " with " + v, want, x -> one.applyAsLong(x, v));
        }
    }

    /** The second cell can't be lit, so that a proof tells its price as it stands in the row. */
    static HopBeams reader() {
        HopBeams x = new HopBeams();
        x.cell(1, 1, 1, 0);
        x.cell(1, 1, 1, 1);
        x.gateway(1, 0, false);
        needs(x, 0, 1);
        return x;
    }

    static void dueNumber(int width, long written, long number) {
        HopBeams x = reader();
        lay(x, 0, width, 1, written);
        due(written + " of width " + width, x.proof(0), number);
    }

    static long proofBy(HopBeams x, long... prices) {
        lay(x, 0, 3, prices);
        return x.proof(0);
    }

    /** The document's terms I .. IV and promises 1 .. 28, each as one line of plain text. */
    private static Map<String, String> sectionsOf(String document) {
        int from = document.indexOf("## Terms");
        int to = document.indexOf("## Not promised");
        String text = document.substring(from, to).replace("```text", "").replace("```", "");
        Matcher head = Pattern.compile("(?m)^(?:## Promise (\\d+):.*|(I|II|III|IV)\\. )").matcher(text);
        Map<String, String> sections = new LinkedHashMap<>();
        String name = null;
        int begun = 0;
        while (head.find()) {
            if (name != null) {
                sections.put(name, plain(text.substring(begun, head.start())));
            }
            name = head.group(1) != null ? head.group(1) : head.group(2);
            begun = head.end();
        }
        sections.put(name, plain(text.substring(begun)));
        return sections;
    }

    private static String plain(String text) {
        return text.replaceAll("`[^`]*`:", "").replaceAll("\\s+", " ");
    }

    /** No sentence of the sections may be left over, and none may be tested that is not there. */
    private static void holdAgainstDocument(List<String> names) throws IOException {
        Map<String, String> sections = sectionsOf(Files.readString(DOCUMENT));
        for (String name : names) {
            String left = sections.getOrDefault(name, "there is no such section");
            section = name;
            for (String quote : SAID.getOrDefault(name, List.of())) {
                sentence = quote;
                int at = left.indexOf(quote);
                if (at < 0) {
                    fail("the document does not say so");
                } else {
                    left = left.substring(0, at) + "\n" + left.substring(at + quote.length());
                }
            }
            sentence = left.trim();
            if (!sentence.isEmpty()) {
                fail("is not tested");
            }
        }
    }

    static void end(List<String> names) throws IOException {
        if (Files.exists(DOCUMENT)) {
            holdAgainstDocument(names);
        }
        System.out.println(wrong == 0 ? "every sentence holds at its edges" : wrong + " answers are not as due");
        if (wrong != 0) {
            System.exit(1);
        }
    }
}
