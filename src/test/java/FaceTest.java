import java.lang.reflect.Constructor;
import java.lang.reflect.Field;
import java.lang.reflect.Method;
import java.lang.reflect.Modifier;
import java.nio.file.Files;
import java.nio.file.Path;
import java.util.Arrays;
import java.util.Set;
import java.util.TreeSet;
import java.util.regex.Matcher;
import java.util.regex.Pattern;

/** The document's face, and those rules of LANGUAGE.md that a look at the class or its text can tell. */
public final class FaceTest {
    private static final Checks c = new Checks("FaceTest");
    private static final String METHODS = "row 3, set 3, copy 5, drop 1, feed 1, lake 0, fault 0, undo 0, hours 1, "
        + "begin 2, hold 2, mend 1, takeOut 1, goer 2, rung 2, stand 1, ahead 2, strength 2, above 1, broken 1, "
        + "first 1, falls 1, mends 3, holds 3, line 2, heavy 1, who 6, rotten 4, risk 4, drawn 3, image 1, "
        + "restore 1, kind 1, as 2, ask 2, trace 1, count 1, status 0";

    public static void main(String[] args) throws Exception {
        c.due("NONE", LadderSprings.NONE, -1000000);
        c.due("BAD", LadderSprings.BAD, -1000001);
        c.due("STATE", LadderSprings.STATE, -1000002);
        c.due("FULL", LadderSprings.FULL, -1000003);
        methods();
        members();
        words();
        insides();
        c.end();
    }

    private static void methods() {
        Set<String> due = new TreeSet<>(Arrays.asList(METHODS.split(", ")));
        Set<String> face = new TreeSet<>();
        Set<String> names = new TreeSet<>();
        for (Method m : LadderSprings.class.getDeclaredMethods()) {
            if (Modifier.isPublic(m.getModifiers())) {
                face.add(m.getName() + " " + m.getParameterCount());
                names.add(m.getName());
                Class<?> type = m.getName().equals("risk") ? long.class : int.class;
                c.holds(m + " answers " + type, m.getReturnType() == type);
                c.holds(m + " takes ints", Arrays.stream(m.getParameterTypes()).allMatch(t -> t == int.class));
            }
        }
        c.holds("the methods are " + face, face.equals(due));
        for (Method m : LadderSprings.class.getDeclaredMethods()) {
            c.holds(m + " is public, or private with a name of its own", Modifier.isPublic(m.getModifiers())
                || Modifier.isPrivate(m.getModifiers()) && !names.contains(m.getName()));
        }
    }

    private static void members() {
        c.holds("public final", Modifier.isPublic(LadderSprings.class.getModifiers())
            && Modifier.isFinal(LadderSprings.class.getModifiers()));
        Set<String> constants = new TreeSet<>(Arrays.asList("NONE", "BAD", "STATE", "FULL"));
        for (Field f : LadderSprings.class.getDeclaredFields()) {
            c.holds(f + " is private, or one of the face", Modifier.isPrivate(f.getModifiers())
                || Modifier.isPublic(f.getModifiers()) && constants.contains(f.getName()));
            c.holds(f + " is final if static", !Modifier.isStatic(f.getModifiers()) || Modifier.isFinal(f.getModifiers()));
        }
        Constructor<?>[] made = LadderSprings.class.getDeclaredConstructors();
        c.due("constructors", made.length, 1);
        c.due("without parameters", made[0].getParameterCount(), 0);
        Class<?>[] inside = LadderSprings.class.getDeclaredClasses();
        c.holds("at most twelve classes", inside.length + 1 <= 12);
        for (Class<?> one : inside) {
            c.holds(one + " is static", Modifier.isStatic(one.getModifiers()));
            c.holds(one + " is not public", !Modifier.isPublic(one.getModifiers()) && !Modifier.isProtected(one.getModifiers()));
            c.holds(one + " has at most twenty fields", Arrays.stream(one.getDeclaredFields())
                .filter(f -> !Modifier.isStatic(f.getModifiers())).count() <= 20);
            for (Field f : one.getDeclaredFields()) {
                c.holds(f + " is final if static", !Modifier.isStatic(f.getModifiers()) || Modifier.isFinal(f.getModifiers()));
            }
        }
    }

    private static void words() throws Exception {
        String text = Files.readString(Path.of("src/main/java/LadderSprings.java"));
        String code = text.replaceAll("(?s)/\\*.*?\\*/", " ").replaceAll("//[^\n]*", " ").replaceAll("'.'", "' '");
        String refused = "\\b(throw|throws|try|catch|finally|synchronized|assert|package|import|double|float|volatile|native"
            + "|var|yield|Object|Exception|System\\.(?!arraycopy))\\b|->|::|@|\\?\\?|Exact\\b|\\$";
        Matcher m = Pattern.compile(refused).matcher(code);
        while (m.find()) {
            c.holds("'" + m.group() + "' is not there", false);
        }
        int longest = 0;
        for (String line : text.split("\n")) {
            longest = Math.max(longest, line.length());
        }
        c.holds("lines can be read", longest <= 120);
    }

    /** Rules 1, 11 and 12: methods inside have names of their own, are short, and only what makes an object makes more. */
    private static void insides() throws Exception {
        Set<String> face = new TreeSet<>();
        for (Method m : LadderSprings.class.getDeclaredMethods()) {
            face.add(m.getName());
            c.holds(m + " takes seven at most", m.getParameterCount() <= 7);
        }
        for (Class<?> one : LadderSprings.class.getDeclaredClasses()) {
            for (Method m : one.getDeclaredMethods()) {
                c.holds(m + " has a name of its own", !face.contains(m.getName()));
                c.holds(m + " takes seven at most", m.getParameterCount() <= 7);
            }
        }
        String text = Files.readString(Path.of("src/main/java/LadderSprings.java"));
        Matcher body = Pattern.compile("(?m)^( {4,8})(?:\\w+ )+(\\w+)\\([^;{]*\\) \\{\n(?s:.*?)^\\1\\}$").matcher(text);
        int methods = 0;
        while (body.find()) {
            methods++;
            c.holds(body.group(2) + " is short", body.group().lines().count() <= 60);
            c.holds(body.group(2) + " makes no object", !Pattern.compile("\\bnew\\b").matcher(body.group()).find()
                || body.group(2).equals("LadderSprings") || body.group(2).equals("Foretold"));
        }
        c.holds("the methods were found in the text", methods >= 130);
    }
}
