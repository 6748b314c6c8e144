import java.lang.reflect.Constructor;
import java.lang.reflect.Field;
import java.lang.reflect.Method;
import java.lang.reflect.Modifier;
import java.nio.file.Files;
import java.nio.file.Path;
import java.util.Arrays;
import java.util.HashSet;
import java.util.Set;
import java.util.TreeSet;
import java.util.regex.Matcher;
import java.util.regex.Pattern;

/** The face of the class, member by member, and those rules of LANGUAGE.md that its text and its members show. */
public final class LanguageTest {
    private static final String[] FACE = {
        "int begin(int,int,int,int) IllegalArgumentException",
        "int send(int,int,int,int) IndexOutOfBoundsException,IllegalArgumentException,IllegalStateException",
        "int run(int) IllegalArgumentException",
        "boolean pause(int,boolean) IndexOutOfBoundsException",
        "int lose(int,int,int) IndexOutOfBoundsException,IllegalArgumentException,IllegalStateException",
        "int recover() ",
        "int tick() ",
        "int packets() ",
        "int arrived() ",
        "int credits(int,int,int) IndexOutOfBoundsException,IllegalArgumentException",
        "int inBuffer(int,int,int) IndexOutOfBoundsException,IllegalArgumentException",
        "int gap(int) IndexOutOfBoundsException",
        "int placeOf(int) IndexOutOfBoundsException",
        "int hops(int) IndexOutOfBoundsException",
        "boolean isMarked(int) IndexOutOfBoundsException",
        "int wants(int) IndexOutOfBoundsException",
        "int circle() ",
        "boolean mayCircle() "};

    /** What rules 2 to 6, 10 and 13 leave out, and what only catching or hiding the machine's own throws would need. */
    private static final String[] RULED_OUT = {"->", "::", "\\bfinally\\b", "\\bassert\\b", "\\bsynchronized\\b",
        "\\bimport\\b", "\\bpackage\\b", "\\bcatch\\b", "Exact\\(", "\\bdouble\\b", "\\bSystem\\.", "\\bThread\\b",
        "\\bnull\\b", "\\bvar\\b", "\\bequals\\b", "\\bhashCode\\b", "\\btoString\\b", " / ", " % ", "\\bwhile\\b",
        "\"\\s*\\+", "\\+\\s*\""};

    private static final int MOST_CLASSES = 12;
    private static final int MOST_FIELDS = 20;
    private static final int MOST_LINES = 60;

    private LanguageTest() {
    }

    public static void main(String[] args) throws Exception {
        theFace();
        theClassesInside();
        String text = Files.readString(Path.of("src/main/java/Creditfabric.java"));
        theText(text);
        theHeadings(text);
        Checks.finish();
    }

    private static void theFace() {
        int modifiers = Creditfabric.class.getModifiers();
        Checks.due("public and final", true, Modifier.isPublic(modifiers) && Modifier.isFinal(modifiers));
        Set<String> names = new HashSet<>();
        Set<String> got = new TreeSet<>();
        for (Method m : Creditfabric.class.getDeclaredMethods()) {
            if (!Modifier.isPrivate(m.getModifiers())) {
                names.add(m.getName());
                got.add(tell(m));
                Checks.due(m.getName() + " is public and not static", Modifier.PUBLIC, m.getModifiers());
            }
        }
        Checks.due("the face", new TreeSet<>(Arrays.asList(FACE)).toString(), got.toString());
        for (Method m : Creditfabric.class.getDeclaredMethods()) {
            boolean isHidden = Modifier.isPrivate(m.getModifiers()) && names.contains(m.getName());
            Checks.due("a private method named as a public one: " + m.getName(), false, isHidden);
        }
        Constructor<?>[] constructors = Creditfabric.class.getDeclaredConstructors();
        Checks.due("constructors", 1, constructors.length);
        Checks.due("the constructor", "public Creditfabric()", constructors[0].toString());
        for (Field f : Creditfabric.class.getDeclaredFields()) {
            boolean isConstant = f.toString().equals("public static final int Creditfabric.NONE");
            Checks.due("private, or the constant: " + f, true, Modifier.isPrivate(f.getModifiers()) || isConstant);
        }
    }

    private static String tell(Method m) {
        StringBuilder told = new StringBuilder(m.getReturnType().getName()).append(' ').append(m.getName()).append('(');
        for (Class<?> type : m.getParameterTypes()) {
            told.append(told.charAt(told.length() - 1) == '(' ? "" : ",").append(type.getName());
        }
        told.append(") ");
        for (Class<?> type : m.getExceptionTypes()) {
            told.append(told.charAt(told.length() - 1) == ' ' ? "" : ",").append(type.getSimpleName());
        }
        return told.toString();
    }

    private static void theClassesInside() {
        Class<?>[] inside = Creditfabric.class.getDeclaredClasses();
        Checks.tell(inside.length < MOST_CLASSES, "too many classes: " + (1 + inside.length));
        checkFields(Creditfabric.class);
        for (Class<?> c : inside) {
            boolean isPublic = Modifier.isPublic(c.getModifiers()) || Modifier.isProtected(c.getModifiers());
            Checks.due("inside and seen from outside: " + c.getName(), false, isPublic);
            Checks.due("static: " + c.getName(), true, Modifier.isStatic(c.getModifiers()));
            checkFields(c);
        }
    }

    private static void checkFields(Class<?> c) {
        int count = 0;
        for (Field f : c.getDeclaredFields()) {
            if (Modifier.isStatic(f.getModifiers())) {
                Checks.due("a static field is final: " + f, true, Modifier.isFinal(f.getModifiers()));
            } else {
                count++;
            }
        }
        Checks.tell(count <= MOST_FIELDS, "too many fields in " + c.getName() + ": " + count);
    }

    private static void theHeadings(String text) {
        Checks.sentence("Ahead of the calls begin, send, run, pause, lose, recover the interface says: ---- what is "
            + "done.");
        theHeading(text, "what is done", "begin send run pause lose recover");
        Checks.sentence("Ahead of the calls tick, packets, arrived, credits, inBuffer, gap the interface says: ---- what "
            + "is asked: the grid.");
        theHeading(text, "what is asked: the grid", "tick packets arrived credits inBuffer gap");
        Checks.sentence("Ahead of the calls placeOf, hops, isMarked, wants the interface says: ---- what is asked: "
            + "packets.");
        theHeading(text, "what is asked: packets", "placeOf hops isMarked wants");
        Checks.sentence("Ahead of the calls circle, mayCircle the interface says: ---- what is asked: circles.");
        theHeading(text, "what is asked: circles", "circle mayCircle");
    }

    /** Between this heading and the next one stand these calls of the face and no others. */
    private static void theHeading(String text, String heading, String calls) {
        String head = "\n    // ---- " + heading + "\n";
        int start = text.indexOf(head);
        Checks.tell(start >= 0, "there is no heading: " + heading);
        String part = start < 0 ? "" : text.substring(start + head.length());
        int end = part.indexOf("\n    // ----");
        Matcher found = Pattern.compile("\n    public \\w+ (\\w+)\\(").matcher(end < 0 ? part : part.substring(0, end));
        StringBuilder got = new StringBuilder();
        while (found.find()) {
            got.append(got.length() == 0 ? "" : " ").append(found.group(1));
        }
        Checks.due("the calls behind " + heading, calls, got.toString());
    }

    private static void theText(String text) {
        String code = text.replaceAll("(?s)/\\*.*?\\*/", "").replaceAll("//[^\n]*", "");
        for (String out : RULED_OUT) {
            Matcher found = Pattern.compile(out).matcher(code);
            Checks.due("the text has " + out, false, found.find());
        }
        Matcher thrown = Pattern.compile("\\bthrow\\b(.*)").matcher(code);
        while (thrown.find()) {
            boolean isWritten = thrown.group(1).matches(
                " new (IndexOutOfBounds|IllegalArgument|IllegalState)Exception\\(\"[ -!#-~]*\"\\);");
            Checks.due("an exception with a written text:" + thrown.group(1), true, isWritten);
        }
        checkArrays(code);
        checkLengths(code);
    }

    /** Arrays stand in class Row alone, where each index is looked at before it is used. */
    private static void checkArrays(String code) {
        int start = code.indexOf("class Row ");
        int end = code.indexOf("class Grid ");
        Checks.due("class Row stands ahead of class Grid", true, start >= 0 && end > start);
        String others = code.substring(0, Math.max(0, start)) + code.substring(Math.max(0, end));
        Checks.due("an array outside class Row", -1, others.indexOf('['));
    }

    private static void checkLengths(String code) {
        int lines = 0;
        for (String line : code.split("\n")) {
            boolean isHead = line.matches(" {4,8}[^ ].*\\).*\\{") || line.matches(" {4,8}[^ =]*[^=]*\\($");
            lines = isHead ? 1 : lines + 1;
            if (line.matches(" {4,8}\\}")) {
                Checks.tell(lines <= MOST_LINES, "a method of " + lines + " lines ends at: " + line);
            }
        }
    }
}
