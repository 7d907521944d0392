import java.io.IOException;
import java.lang.reflect.Constructor;
import java.lang.reflect.Field;
import java.lang.reflect.Method;
import java.lang.reflect.Modifier;
import java.nio.file.Files;
import java.nio.file.Path;
import java.util.Arrays;
import java.util.Set;
import java.util.TreeSet;
import java.util.regex.Matcher;
import java.util.regex.Pattern;

/** The document's face, and those rules of LANGUAGE.md that can be seen from outside or in the text of the program. */
public final class FaceTest {
    private static final String[] FACE = {
        "int feed(int,int,int,int,int)", "int match(int)", "int fault()", "int where()", "boolean start(int)",
        "boolean hour(int)", "int tenth()", "int finish()", "int over()", "int winner()", "int player(int,int)",
        "int block(int)", "int left(int)", "int sum(int)", "int hold(int)", "int bestHour()", "int mark()",
        "boolean back(int)", "int wins(int,int)", "int fair(int)", "int chance(int,int,boolean)", "int hidden(int,int)",
        "int odds(int,int,boolean)", "int pair(int,int,int)", "int gain(int,int,int)", "long dash(int,int,int)",
        "int runners(int,int,int)", "int hides(int)", "int build(int,int)", "int least(int,int)", "int most(int,int)",
        "int mix(int,int)", "int rests(int,int)", "int supply(int,int)", "int stands(int,int)", "int falls(int)",
        "int ways(int)", "int who(int,int)", "int see(int)", "long likely(int)", "int learn()", "int next()",
        "int led(int) throws java.util.NoSuchElementException", "int size(int)", "int trouble()"};

    /** What LANGUAGE.md lets a program import. */
    private static final Set<String> LIBRARY = Set.of("java.util.NoSuchElementException", "java.util.ArrayList", "java.util.List",
        "java.util.Arrays", "java.util.Iterator");

    private static final String PROGRAM = "src/main/java/SnowWalls.java";

    private FaceTest() {
    }

    public static void main(String[] args) throws IOException {
        face();
        constants();
        classesInside();
        text(Files.readString(Path.of(PROGRAM)));
        methodsAreShort(Files.readString(Path.of(PROGRAM)));
        Check.done();
    }

    private static void face() {
        Set<String> open = new TreeSet<>();
        for (Method m : SnowWalls.class.getDeclaredMethods()) {
            if (!Modifier.isPrivate(m.getModifiers())) {
                open.add(m.toString().replace("public ", "").replace("SnowWalls.", ""));
            }
        }
        Set<String> due = new TreeSet<>(Arrays.asList(FACE));
        Check.due("the methods of the face: " + open, open.equals(due), true);
        Check.due("the class is public and final", SnowWalls.class.getModifiers(), Modifier.PUBLIC | Modifier.FINAL);
        Constructor<?>[] makers = SnowWalls.class.getDeclaredConstructors();
        Check.due("constructors", makers.length, 1);
        Check.due("the constructor is public, with nothing told", Modifier.isPublic(makers[0].getModifiers())
            && makers[0].getParameterCount() == 0, true);
    }

    private static void constants() {
        for (Field f : SnowWalls.class.getDeclaredFields()) {
            boolean none = f.getName().equals("NONE");
            Check.due("field " + f, Modifier.isPrivate(f.getModifiers()), !none);
            if (Modifier.isStatic(f.getModifiers())) {
                Check.due("final " + f, Modifier.isFinal(f.getModifiers()), true);
            }
        }
        Check.due("NONE", SnowWalls.NONE, -1);
    }

    private static void classesInside() {
        Class<?>[] inside = SnowWalls.class.getDeclaredClasses();
        Check.due("no more than twelve classes", inside.length <= 11, true);
        Set<String> names = new TreeSet<>();
        for (String method : FACE) {
            names.add(method.substring(method.indexOf(' ') + 1, method.indexOf('(')));
        }
        for (Class<?> c : inside) {
            Check.due("private and static: " + c, Modifier.isPrivate(c.getModifiers())
                && Modifier.isStatic(c.getModifiers()), true);
            Check.due("no more than twenty fields: " + c, fieldsOf(c) <= 20, true);
            for (Method m : c.getDeclaredMethods()) {
                Check.due("no name of the face: " + m, names.contains(m.getName()), false);
                Check.due("no more than seven parameters: " + m, m.getParameterCount() <= 7, true);
            }
        }
        for (Method m : SnowWalls.class.getDeclaredMethods()) {
            if (Modifier.isPrivate(m.getModifiers())) {
                Check.due("no name of the face: " + m, names.contains(m.getName()), false);
            }
        }
        Check.due("no more than twenty fields", fieldsOf(SnowWalls.class) <= 20, true);
    }

    private static int fieldsOf(Class<?> c) {
        int many = 0;
        for (Field f : c.getDeclaredFields()) {
            many += Modifier.isStatic(f.getModifiers()) ? 0 : 1;
            Check.due("static fields are final: " + f, Modifier.isStatic(f.getModifiers())
                && !Modifier.isFinal(f.getModifiers()), false);
        }
        return many;
    }

    private static void text(String program) {
        String code = program.replaceAll("(?s)/\\*.*?\\*/", "").replaceAll("//[^\n]*", "");
        String[] notThere = {"->", "::", "\\bfinally\\b", "\\bsynchronized\\b", "\\bassert\\b", "\\bpackage\\b", "Exact\\b",
            "static \\{", "\"\\s*\\+", "\\+\\s*\"", "\\bhashCode\\b", "\\bstream\\b", "\\bcurrentTimeMillis\\b", "\\bnanoTime\\b",
            "\\bRandom\\b", "while \\(true\\)", "for \\(;;\\)"};
        for (String part : notThere) {
            Check.due("there is " + part, Pattern.compile(part).matcher(code).find(), false);
        }
        Matcher imports = Pattern.compile("import ([^;]*);").matcher(code);
        while (imports.find()) {
            String name = imports.group(1);
            Check.due("import " + name, LIBRARY.contains(name), true);
        }
        for (char sign : program.toCharArray()) {
            if (sign > 126) {
                Check.due("a sign beyond 126", sign, 0);
            }
        }
    }

    /** A method begins where a line of four or eight blanks ends in "{", and ends at the "}" as far in. */
    private static void methodsAreShort(String program) {
        String[] lines = program.split("\n");
        for (int i = 0; i < lines.length; i++) {
            Matcher head = Pattern.compile("^((?: {4}| {8}))\\S.*\\).*\\{$").matcher(lines[i]);
            if (!head.matches()) {
                continue;
            }
            int to = i;
            while (!lines[to].equals(head.group(1) + "}")) {
                to++;
            }
            Check.due("no more than sixty lines: " + lines[i].trim(), to - i <= 60, true);
        }
    }
}
