import java.io.IOException;
import java.lang.reflect.Field;
import java.lang.reflect.Member;
import java.lang.reflect.Method;
import java.lang.reflect.Modifier;
import java.nio.file.Files;
import java.nio.file.Path;
import java.util.ArrayList;
import java.util.List;
import java.util.Set;
import java.util.TreeSet;
import java.util.regex.Matcher;
import java.util.regex.Pattern;

/** Those rules of LANGUAGE.md that can be seen in the text of the class or in its members. */
public final class LanguageTest {
    private static final String[] FACE = {"terms", "cell", "forbid", "rain", "gateway", "swap", "needs", "asks",
        "legal", "sets", "fewest", "frame", "frameOf", "proof", "ways", "digit", "rule", "go", "lit", "cellOf",
        "units", "count", "gatewayOf", "row", "tear", "write", "paste"};
    private static int wrong;

    private static void must(boolean holds, String rule) {
        if (!holds) {
            wrong++;
            System.out.println("not kept: " + rule);
        }
    }

    private static boolean isPrivate(Member m) {
        return Modifier.isPrivate(m.getModifiers());
    }

    private static void face() {
        Set<String> due = new TreeSet<>(List.of(FACE));
        Set<String> seen = new TreeSet<>();
        for (Method m : HopBeams.class.getDeclaredMethods()) {
            if (isPrivate(m)) {
                must(!due.contains(m.getName()), "1: no private method bears a public name: " + m);
            } else {
                must(Modifier.isPublic(m.getModifiers()) && seen.add(m.getName()), "1: the face alone: " + m);
            }
        }
        must(seen.equals(due), "1: all methods of the face: " + seen);
        for (Field f : HopBeams.class.getDeclaredFields()) {
            must(isPrivate(f) || f.getName().equals("NONE"), "1: fields are private: " + f);
        }
        must(HopBeams.class.getDeclaredConstructors().length == 1, "1: one constructor");
        must(Modifier.isFinal(HopBeams.class.getModifiers()), "1: final");
    }

    /** The face line by line as the document writes it, and nothing else that is public. */
    private static void faceOfDocument(String code) throws IOException {
        String document = Files.readString(Path.of("../shared/DOC.md"));
        int from = document.indexOf("public final class HopBeams {");
        int to = from < 0 ? -1 : document.indexOf("```", from);
        must(to > 0, "1: the document has a face");
        String flat = code.replaceAll("\\s+", " ");
        int due = 0;
        for (String line : to > 0 ? document.substring(from, to).split("\n") : new String[0]) {
            String member = line.strip();
            if (member.startsWith("public ")) {
                due++;
                String head = member.contains(" = ") || !member.endsWith(";") ? member
                        : member.substring(0, member.length() - 1) + " {";
                must(flat.contains(head), "1: the face as the document has it: " + member);
            }
        }
        int seen = flat.split("\\b(?:public|protected)\\b", -1).length - 1;
        must(due == seen, "1: " + due + " public members in the document, " + seen + " in the class");
    }

    private static void members(Class<?> type) {
        int fields = 0;
        for (Field f : type.getDeclaredFields()) {
            boolean isStatic = Modifier.isStatic(f.getModifiers());
            must(!isStatic || Modifier.isFinal(f.getModifiers()), "5: static fields are final: " + f);
            fields += isStatic ? 0 : 1;
        }
        must(fields <= 20, "11: twenty fields: " + type);
        for (Method m : type.getDeclaredMethods()) {
            must(type == HopBeams.class || !List.of(FACE).contains(m.getName()),
                    "1: no private method bears a public name: " + m);
            must(m.getParameterCount() <= 7, "11: seven parameters: " + m);
        }
    }

    private static String withoutComments(String text) {
        return text.replaceAll("(?s)/\\*.*?\\*/", "").replaceAll("//[^\\n]*", "");
    }

    private static void words(String code) {
        String[] none = {"\\bthrows?\\b", "\\btry\\b", "\\bcatch\\b", "\\bsynchronized\\b", "\\bassert\\b", "->", "::",
            "\\bstatic\\s*\\{", "\\bMath\\.\\w+Exact\\b", "\\bSystem\\.(?!arraycopy\\b)", "\\bpackage\\b",
            "\\bjava\\.(?!util\\.(Arrays|ArrayList|List|Iterator)\\b)", "\\bMath\\.random\\b", "\\bObject\\b"};
        for (String word : none) {
            must(!Pattern.compile(word).matcher(code).find(), "3, 4, 5, 6, 13: no " + word);
        }
    }

    private static void lengths(String code) {
        String[] lines = code.split("\n");
        Pattern head = Pattern.compile("^ {4}(?: {4})?(?:public|private)[^;=]*\\) \\{$");
        for (int i = 0; i < lines.length; i++) {
            Matcher m = head.matcher(lines[i]);
            if (m.find()) {
                String end = lines[i].replaceAll("\\S.*", "") + "}";
                int k = i;
                while (k < lines.length && !lines[k].equals(end)) {
                    k++;
                }
                must(k - i < 60, "11: short methods: " + lines[i]);
            }
        }
    }

    public static void main(String[] args) throws IOException {
        String code = withoutComments(Files.readString(Path.of("src/main/java/HopBeams.java")));
        face();
        faceOfDocument(code);
        List<Class<?>> types = new ArrayList<>(List.of(HopBeams.class.getDeclaredClasses()));
        must(types.size() < 12, "11: twelve classes");
        for (Class<?> type : types) {
            must(Modifier.isStatic(type.getModifiers()), "2: classes inside are static: " + type);
        }
        types.add(HopBeams.class);
        for (Class<?> type : types) {
            members(type);
        }
        words(code);
        lengths(code);
        System.out.println(wrong == 0 ? "the rules that can be seen are kept" : wrong + " rules are not kept");
        if (wrong != 0) {
            System.exit(1);
        }
    }
}
