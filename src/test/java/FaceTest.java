import java.io.IOException;
import java.lang.reflect.Member;
import java.lang.reflect.Method;
import java.lang.reflect.Modifier;
import java.nio.file.Files;
import java.nio.file.Path;
import java.util.ArrayList;
import java.util.List;
import java.util.Set;
import java.util.TreeSet;
import java.util.regex.Matcher;
import java.util.regex.Pattern;

/** The face of the document, and those rules of ../shared/LANGUAGE.md that a look at the text can tell. */
public final class FaceTest {
    private static final Path DOCUMENT = Path.of("../shared/DOC.md");
    private static final Path SOURCE = Path.of("src/main/java/Gamefield.java");

    private FaceTest() {
    }

    private static List<String> faceOfDocument() throws IOException {
        List<String> face = new ArrayList<>();
        boolean isInside = false;
        for (String line : Files.readAllLines(DOCUMENT)) {
            if (line.startsWith("```")) {
                isInside = !isInside;
            } else if (isInside && line.startsWith("    public ")) {
                face.add(line);
            }
        }
        return face;
    }

    private static void faceIsTheDocuments() throws IOException {
        List<String> want = faceOfDocument();
        List<String> got = new ArrayList<>();
        for (String line : Files.readAllLines(SOURCE)) {
            if (line.startsWith("    public ")) {
                got.add(line.endsWith(" {") ? line.substring(0, line.length() - 2) + ";" : line);
            }
        }
        Checks.due("how many members the document's face has", want.size(), 43);
        Checks.due("the face", got, want);
    }

    private static boolean isOpen(Member member) {
        return !Modifier.isPrivate(member.getModifiers()) && !member.isSynthetic();
    }

    private static void nothingElseIsOpen() {
        Class<?> face = Gamefield.class;
        List<Member> members = new ArrayList<>();
        members.addAll(List.of(face.getDeclaredFields()));
        members.addAll(List.of(face.getDeclaredMethods()));
        members.addAll(List.of(face.getDeclaredConstructors()));
        int open = 0;
        for (Member member : members) {
            if (isOpen(member)) {
                open++;
                Checks.due("public " + member, Modifier.isPublic(member.getModifiers()), true);
            }
        }
        Checks.due("open members", open, 43);
        for (Class<?> inside : face.getDeclaredClasses()) {
            int modifiers = inside.getModifiers();
            Checks.due("static and not public " + inside,
                    Modifier.isStatic(modifiers) && !Modifier.isPublic(modifiers), true);
            namesAreOther(inside);
        }
    }

    /** No other method bears the name of one of the face. */
    private static void namesAreOther(Class<?> inside) {
        Set<String> names = new TreeSet<>();
        for (Method method : Gamefield.class.getDeclaredMethods()) {
            if (Modifier.isPublic(method.getModifiers())) {
                names.add(method.getName());
            }
        }
        for (Method method : inside.getDeclaredMethods()) {
            Checks.due("a name of the face for " + method, names.contains(method.getName()), false);
        }
    }

    private static String textWithoutComments() throws IOException {
        return Files.readString(SOURCE).replaceAll("(?s)/\\*.*?\\*/", "").replaceAll("//[^\n]*", "");
    }

    private static void textKeepsTheRules() throws IOException {
        String text = textWithoutComments();
        String[] ruledOut = {
            "\\bcatch\\b", "\\btry\\b", "\\bfinally\\b", "\\bsynchronized\\b", "\\bassert\\b", "\\bstatic\\s*\\{",
            "->", "::", "Exact\\b", "\\bdouble\\b.*\\bMath\\b", "\\bhashCode\\b", "\\btoString\\b", "\\bpackage\\b"
        };
        for (String pattern : ruledOut) {
            Checks.due("a match of " + pattern, Pattern.compile(pattern).matcher(text).find(), false);
        }
        Matcher imports = Pattern.compile("import [^\n]*").matcher(text);
        while (imports.find()) {
            Checks.due("the import", imports.group(), "import java.util.NoSuchElementException;");
        }
    }

    /** Of the library only static functions that rule 4 lists are used, and of those these three. */
    private static void onlyListedFunctions() throws IOException {
        Pattern name = Pattern.compile("\\b(Integer|Long|Math|System|Arrays|String)\\b[^;{]*");
        Matcher names = name.matcher(textWithoutComments());
        while (names.find()) {
            boolean isListed = names.group().matches("(?s)(Math\\.floorMod|Math\\.min|Integer\\.bitCount)\\(.*");
            Checks.due("listed in rule 4: " + names.group(), isListed, true);
        }
    }

    /**
     * Room is taken with the object alone: by its fields, and by the constructor's four parts, of which
     * it hands none to another one (rule 12).
     */
    private static void callsTakeNoRoom() throws IOException {
        for (String line : textWithoutComments().split("\n")) {
            if (line.matches(".*\\bnew\\b.*") && !line.contains("throw new ")) {
                boolean isField = line.matches("\\s*(private )?final [A-Za-z]+(\\[\\])? \\w+ = new .*;");
                boolean isPart = line.matches(" {8}(numbers|registers|basket|board) = new [A-Za-z]+\\(\\);");
                Checks.due("made with the object: " + line, isField || isPart, true);
            }
        }
    }

    public static void main(String[] args) throws IOException {
        faceIsTheDocuments();
        nothingElseIsOpen();
        textKeepsTheRules();
        onlyListedFunctions();
        callsTakeNoRoom();
        Checks.finish("FaceTest");
    }
}
