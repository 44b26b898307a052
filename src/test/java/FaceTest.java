import java.io.IOException;
import java.lang.reflect.Array;
import java.lang.reflect.Constructor;
import java.lang.reflect.Field;
import java.lang.reflect.Method;
import java.lang.reflect.Modifier;
import java.nio.charset.StandardCharsets;
import java.nio.file.Files;
import java.nio.file.Path;
import java.util.ArrayList;
import java.util.Arrays;
import java.util.HashSet;
import java.util.List;
import java.util.Map;
import java.util.Set;
import java.util.TreeMap;
import java.util.TreeSet;
import java.util.regex.Matcher;
import java.util.regex.Pattern;

/** The document's face, and those rules of LANGUAGE.md that a reading of the source shows. */
public final class FaceTest extends TestBase {
    private static final String SOURCE = "src/main/java/KiteYards.java";
    private static final String[] FACE = {
        "int about(int)", "int afternoons(int)", "int again(int)", "int arrives(int,int)", "int cheapest(int,int)",
        "int cut(int)", "int drops(int)", "int fault()", "int fewest(int,int)", "int fly()",
        "int gusts(int,int,boolean)", "int keep(int)", "int kite(int,int)", "int letOut(int,int)",
        "int rests(int,int,int,int,int)", "int seeAt(int,int)", "int sees(int)", "int sent(int,int)",
        "int set(int,int)", "int share(int,boolean)", "int taken(int,int,int)", "int turn(int,int)", "int undo()",
        "int unsee()", "int whereToCut()", "int winds(int)", "int wipe()", "int write(int)", "long seed(long)"};
    private static final String[] CONSTANTS = {"UNKNOWN=-1", "BAD=-2", "LATE=-3", "FULL=-4", "NONE=-9"};
    // The rules allow a few more than these two rows: what the program takes up besides comes here then.
    private static final Set<String> LIBRARY = Set.of(
        "Math.abs", "Math.max", "Math.min", "Math.floorMod", "Math.floorDiv", "Integer.bitCount");
    private static final Set<String> FIELD_TYPES = Set.of("int", "long", "boolean", "int[]", "boolean[]");
    private static final String[] FORBIDDEN = {
        "\\bthrow\\b", "\\bthrows\\b", "\\btry\\b", "\\bcatch\\b", "\\bsynchronized\\b", "\\bassert\\b", "\\bimport\\b",
        "\\bpackage\\b", "->", "::", "Exact\\b", "\\bSystem\\.(?!arraycopy)", "static\\s*\\{", "\\bThread\\b", "\\bObject\\b",
        "\\bnative\\b", "\\bhashCode\\b", "\\btoString\\b", "\\bvar\\b", "\\bMath\\.random\\b",
        "while \\(true\\)", "for \\(;;\\)"};

    public static void main(String[] args) throws IOException, IllegalAccessException {
        heading("the face and LANGUAGE.md");
        methods();
        constants();
        classes();
        for (Class<?> one : KiteYards.class.getDeclaredClasses()) {
            inside(one);
        }
        String text = Files.readString(Path.of(SOURCE), StandardCharsets.ISO_8859_1);
        source(text);
        String bare = bare(text);
        library(bare);
        Map<String, String> bodies = bodies(bare);
        noCallMakesObjects(bodies);
        callsGoEightDeep(bodies);
        room();
        end();
    }

    private static String signature(Method method) {
        StringBuilder row = new StringBuilder(method.getReturnType().getName() + " " + method.getName() + "(");
        for (Class<?> parameter : method.getParameterTypes()) {
            row.append(row.charAt(row.length() - 1) == '(' ? "" : ",").append(parameter.getName());
        }
        return row.append(")").toString();
    }

    private static void methods() {
        Set<String> open = new TreeSet<>();
        Set<String> openNames = new HashSet<>();
        for (Method method : KiteYards.class.getDeclaredMethods()) {
            if (!Modifier.isPrivate(method.getModifiers())) {
                open.add(signature(method));
                openNames.add(method.getName());
                holds(method.getName() + " is public and not static", method.getModifiers() == Modifier.PUBLIC);
            }
        }
        holds("the methods are the face's: " + open, open.equals(new TreeSet<>(Arrays.asList(FACE))));
        for (Method method : KiteYards.class.getDeclaredMethods()) {
            boolean hidden = Modifier.isPrivate(method.getModifiers());
            holds(method + " bears no public name", !hidden || !openNames.contains(method.getName()));
            holds(method + " takes seven at most", method.getParameterCount() <= 7);
        }
        Constructor<?>[] constructors = KiteYards.class.getDeclaredConstructors();
        holds("one public constructor", constructors.length == 1 && constructors[0].getParameterCount() == 0
            && constructors[0].getModifiers() == Modifier.PUBLIC);
    }

    private static void constants() throws IllegalAccessException {
        Set<String> open = new TreeSet<>();
        int own = 0;
        for (Field field : KiteYards.class.getDeclaredFields()) {
            boolean isStatic = Modifier.isStatic(field.getModifiers());
            if (!Modifier.isPrivate(field.getModifiers())) {
                holds(field + " is an int constant", isStatic && field.getType() == int.class);
                open.add(field.getName() + "=" + (isStatic ? field.get(null) : "?"));
            }
            holds(field + " is final, if static", !isStatic || Modifier.isFinal(field.getModifiers()));
            own += isStatic ? 0 : 1;
        }
        holds("the constants are the face's: " + open, open.equals(new TreeSet<>(Arrays.asList(CONSTANTS))));
        holds("twenty fields at most", own <= 20);
    }

    private static void classes() {
        holds("public and final", KiteYards.class.getModifiers() == (Modifier.PUBLIC | Modifier.FINAL));
        Class<?>[] inside = KiteYards.class.getDeclaredClasses();
        holds("twelve classes at most", inside.length + 1 <= 12);
        for (Class<?> one : inside) {
            holds(one + " is static", Modifier.isStatic(one.getModifiers()));
            holds(one + " is not public", !Modifier.isPublic(one.getModifiers()));
        }
    }

    /** Rules 1, 3, 5 and 11 for a class inside. */
    private static void inside(Class<?> one) {
        Set<String> open = new HashSet<>();
        for (Method method : KiteYards.class.getDeclaredMethods()) {
            if (!Modifier.isPrivate(method.getModifiers())) {
                open.add(method.getName());
            }
        }
        for (Method method : one.getDeclaredMethods()) {
            holds(method + " bears no public name", !open.contains(method.getName()));
            holds(method + " takes seven at most", method.getParameterCount() <= 7);
        }
        int own = 0;
        for (Field field : one.getDeclaredFields()) {
            boolean isStatic = Modifier.isStatic(field.getModifiers());
            Class<?> type = field.getType();
            Class<?> element = type.isArray() ? type.getComponentType() : type;
            holds(field + " is not static", !isStatic);
            holds(field + " has a type of rule 3", FIELD_TYPES.contains(type.getSimpleName())
                || element.getNestHost() == KiteYards.class && !element.isArray());
            own += isStatic ? 0 : 1;
        }
        holds(one + " has twenty fields at most", own <= 20);
    }

    /** The source without its comments and what stands in quotes. */
    private static String bare(String text) {
        return text.replaceAll("(?s)/\\*.*?\\*/", "").replaceAll("//[^\n]*", "").replaceAll("\"[^\"\n]*\"", "\"\"");
    }

    /** Rule 4: of the library's static functions only those that are listed. */
    private static void library(String bare) {
        Matcher named = Pattern.compile("\\b([A-Z]\\w*[a-z]\\w*)\\.(\\w+)").matcher(bare);
        int found = 0;
        while (named.find()) {
            holds(named.group() + " is of the library's list", LIBRARY.contains(named.group()));
            found++;
        }
        holds("some functions of the library are used", found > 0);
    }

    /** Rule 12 and the room: objects are made by constructors and by newLines alone. */
    private static void noCallMakesObjects(Map<String, String> bodies) {
        Pattern made = Pattern.compile("\\bnew\\b|\\.clone\\(");
        for (Map.Entry<String, String> body : bodies.entrySet()) {
            boolean may = body.getKey().equals("KiteYards") || body.getKey().equals("newLines");
            holds(body.getKey() + " makes no object", may || !made.matcher(body.getValue()).find());
        }
    }

    /** What stands inside each method, by its name: methods of one name are told as one. */
    private static Map<String, String> bodies(String bare) {
        Map<String, String> bodies = new TreeMap<>();
        Matcher head = Pattern.compile("(?m)^( {4}| {8})(?!return|if|for|switch|while|else)[A-Za-z][^\n=]*?(\\w+)"
            + "\\([^\n]*\\) \\{\\n((?s:.*?)\\n)\\1\\}").matcher(bare);
        while (head.find()) {
            bodies.merge(head.group(2), head.group(3), String::concat);
        }
        return bodies;
    }

    /** Rules 8 and 11: no method comes back to itself, and no chain of calls is longer than eight. */
    private static void callsGoEightDeep(Map<String, String> bodies) {
        List<Class<?>> classes = new ArrayList<>(List.of(KiteYards.class.getDeclaredClasses()));
        classes.add(KiteYards.class);
        for (Class<?> one : classes) {
            for (Method method : one.getDeclaredMethods()) {
                holds(method + " is found in the source", bodies.containsKey(method.getName()));
            }
        }
        for (String name : bodies.keySet()) {
            int deep = depth(name, bodies, 0);
            holds(name + " goes " + deep + " deep", deep <= 8);
        }
    }

    /** More than the limit for a chain that comes back to itself. */
    private static int depth(String name, Map<String, String> bodies, int above) {
        int deepest = 0;
        Matcher call = Pattern.compile("\\b(\\w+)\\(").matcher(bodies.get(name));
        while (above < 20 && call.find()) {
            if (bodies.containsKey(call.group(1))) {
                deepest = Math.max(deepest, depth(call.group(1), bodies, above + 1));
            }
        }
        return deepest + 1;
    }

    /** The room of a run is 600000 objects and 7300000 fields and elements: a run has 512 calls. */
    private static void room() throws IllegalAccessException {
        long[] counted = new long[2];
        count(new KiteYards(), counted);
        holds("objects of a new one: " + counted[0], counted[0] > 20 && counted[0] * 512 < 600000);
        holds("fields and elements of a new one: " + counted[1], counted[1] > 200 && counted[1] * 512 < 7300000);
    }

    /** Nothing inside is held twice, so that a plain walk counts all. */
    private static void count(Object one, long[] counted) throws IllegalAccessException {
        if (one == null) {
            return;
        }
        counted[0]++;
        if (one.getClass().isArray()) {
            counted[1] += Array.getLength(one);
            for (int place = 0; one instanceof Object[] && place < Array.getLength(one); place++) {
                count(Array.get(one, place), counted);
            }
            return;
        }
        for (Field field : one.getClass().getDeclaredFields()) {
            if (!Modifier.isStatic(field.getModifiers())) {
                counted[1]++;
                field.setAccessible(true);
                count(field.getType().isPrimitive() ? null : field.get(one), counted);
            }
        }
    }

    private static void source(String text) {
        holds("signs are 1 to 127", text.chars().allMatch(sign -> sign > 0 && sign < 128));
        String bare = bare(text);
        for (String forbidden : FORBIDDEN) {
            holds("no " + forbidden, !Pattern.compile(forbidden).matcher(bare).find());
        }
        List<String> lines = Arrays.asList(text.split("\n"));
        Pattern head = Pattern.compile("^( {4}| {8})(?!return|if|for|switch|while|else)[A-Za-z].*\\) \\{$");
        for (int row = 0; row < lines.size(); row++) {
            Matcher matcher = head.matcher(lines.get(row));
            if (matcher.matches()) {
                int end = lines.subList(row, lines.size()).indexOf(matcher.group(1) + "}");
                holds("short: " + lines.get(row).trim(), end > 0 && end <= 60);
            }
        }
    }
}
