import java.io.IOException;
import java.lang.reflect.Constructor;
import java.lang.reflect.Field;
import java.lang.reflect.Method;
import java.lang.reflect.Modifier;
import java.nio.charset.StandardCharsets;
import java.nio.file.Files;
import java.nio.file.Path;
import java.util.Arrays;
import java.util.HashSet;
import java.util.List;
import java.util.Set;
import java.util.TreeSet;
import java.util.regex.Matcher;
import java.util.regex.Pattern;

/** The document's face, and those rules of LANGUAGE.md that a reading of the source shows. */
public final class FaceTest extends TestBase {
    private static final String SOURCE = "src/main/java/KiteYards.java";
    private static final String[] FACE = {
        "int about(int)", "int afternoons(int)", "int again(int)", "int arrives(int,int)", "int cheapest(int,int)",
        "int cut(int)", "int drops(int)", "int fault()", "int fewest(int,int)", "int fly()",
        "int gusts(int,int,boolean)", "int keep(int)", "int kite(int,int)", "int letOut(int,int)",
        "int rests(int,int,int,int,int)", "int seeAt(int,int)", "int sees(int)", "int sent(int,int)",
        "int set(int,int)", "int share(int,boolean)", "int taken(int,int,int)", "int turn(int,int)", "int undo()",
        "int unsee()", "int whereToCut()", "int winds(int)", "int wipe()", "int write(int)", "long seed(long)"};
    private static final String[] CONSTANTS = {"UNKNOWN=-1", "BAD=-2", "LATE=-3", "FULL=-4", "NONE=-9"};
    private static final String[] FORBIDDEN = {
        "\\bthrow\\b", "\\bthrows\\b", "\\btry\\b", "\\bcatch\\b", "\\bsynchronized\\b", "\\bassert\\b", "\\bimport\\b",
        "\\bpackage\\b", "->", "::", "Exact\\b", "\\bSystem\\.(?!arraycopy)", "static\\s*\\{", "\\bThread\\b", "\\bObject\\b",
        "\\bnative\\b", "\\bhashCode\\b", "\\btoString\\b", "\\bvar\\b", "\\bMath\\.random\\b"};

    public static void main(String[] args) throws IOException, IllegalAccessException {
        heading("the face and LANGUAGE.md");
        methods();
        constants();
        classes();
        source(Files.readString(Path.of(SOURCE), StandardCharsets.ISO_8859_1));
        end();
    }

    private static String signature(Method method) {
        StringBuilder row = new StringBuilder(method.getReturnType().getName() + " " + method.getName() + "(");
        for (Class<?> parameter : method.getParameterTypes()) {
            row.append(row.charAt(row.length() - 1) == '(' ? "" : ",").append(parameter.getName());
        }
        return row.append(")").toString();
    }

    private static void methods() {
        Set<String> open = new TreeSet<>();
        Set<String> openNames = new HashSet<>();
        for (Method method : KiteYards.class.getDeclaredMethods()) {
            if (!Modifier.isPrivate(method.getModifiers())) {
                open.add(signature(method));
                openNames.add(method.getName());
                holds(method.getName() + " is public and not static", method.getModifiers() == Modifier.PUBLIC);
            }
        }
        holds("the methods are the face's: " + open, open.equals(new TreeSet<>(Arrays.asList(FACE))));
        for (Method method : KiteYards.class.getDeclaredMethods()) {
            boolean hidden = Modifier.isPrivate(method.getModifiers());
            holds(method + " bears no public name", !hidden || !openNames.contains(method.getName()));
            holds(method + " takes seven at most", method.getParameterCount() <= 7);
        }
        Constructor<?>[] constructors = KiteYards.class.getDeclaredConstructors();
        holds("one public constructor", constructors.length == 1 && constructors[0].getParameterCount() == 0
            && constructors[0].getModifiers() == Modifier.PUBLIC);
    }

    private static void constants() throws IllegalAccessException {
        Set<String> open = new TreeSet<>();
        int own = 0;
        for (Field field : KiteYards.class.getDeclaredFields()) {
            boolean isStatic = Modifier.isStatic(field.getModifiers());
            if (!Modifier.isPrivate(field.getModifiers())) {
                holds(field + " is an int constant", isStatic && field.getType() == int.class);
                open.add(field.getName() + "=" + (isStatic ? field.get(null) : "?"));
            }
            holds(field + " is final, if static", !isStatic || Modifier.isFinal(field.getModifiers()));
            own += isStatic ? 0 : 1;
        }
        holds("the constants are the face's: " + open, open.equals(new TreeSet<>(Arrays.asList(CONSTANTS))));
        holds("twenty fields at most", own <= 20);
    }

    private static void classes() {
        holds("public and final", KiteYards.class.getModifiers() == (Modifier.PUBLIC | Modifier.FINAL));
        Class<?>[] inside = KiteYards.class.getDeclaredClasses();
        holds("twelve classes at most", inside.length + 1 <= 12);
        for (Class<?> one : inside) {
            holds(one + " is static", Modifier.isStatic(one.getModifiers()));
            holds(one + " is not public", !Modifier.isPublic(one.getModifiers()));
        }
    }

    private static void source(String text) {
        holds("signs are 1 to 127", text.chars().allMatch(sign -> sign > 0 && sign < 128));
        String bare = text.replaceAll("(?s)/\\*.*?\\*/", "").replaceAll("//[^\n]*", "").replaceAll("\"[^\"\n]*\"", "\"\"");
        for (String forbidden : FORBIDDEN) {
            holds("no " + forbidden, !Pattern.compile(forbidden).matcher(bare).find());
        }
        List<String> lines = Arrays.asList(text.split("\n"));
        Pattern head = Pattern.compile("^( {4}| {8})(?!return|if|for|switch|while|else)[A-Za-z].*\\) \\{$");
        for (int row = 0; row < lines.size(); row++) {
            Matcher matcher = head.matcher(lines.get(row));
            if (matcher.matches()) {
                int end = lines.subList(row, lines.size()).indexOf(matcher.group(1) + "}");
                holds("short: " + lines.get(row).trim(), end > 0 && end <= 60);
            }
        }
    }
}
