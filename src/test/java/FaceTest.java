import java.io.IOException;
import java.lang.reflect.Constructor;
import java.lang.reflect.Field;
import java.lang.reflect.Member;
import java.lang.reflect.Method;
import java.lang.reflect.Modifier;
import java.nio.file.Files;
import java.nio.file.Path;
import java.util.Arrays;
import java.util.Set;
import java.util.TreeSet;
import java.util.regex.Matcher;
import java.util.regex.Pattern;

/** The face of the class, and those rules of LANGUAGE.md that can be seen from outside or by words. */
public final class FaceTest {
    private static final Path SOURCE = Path.of("src/main/java/DrawLooms.java");
    private static final String FACE = "paper/2 square/3 fill/4 at/2 span/1 mirror/1 cords/0 cord/1 pull/2 pulls/0 "
        + "pullOf/2 limit/1 floats/2 mend/1 fault/3 clear/0 weave/0 cloth/2 see/3 explained/1 set/2 order/3 best/0 "
        + "bestAt/1 work/1 days/1 law/3 silk/4 account/2 warp/2 cards/1 hang/1 cut/2 join/2 beamOf/2 orderOf/2 count/1";
    private static final String FORBIDDEN = "\\b(throw|throws|try|catch|synchronized|assert|native|protected|"
        + "Exact|Random|Thread|Object|Exception)\\b|->|::|Exact\\(";

    /** Rule 4 leaves more, but the class needs no more; what is new here is to be held against the rule. */
    private static final Set<String> LIBRARY = Set.of("Arrays.fill", "System.arraycopy", "Integer.bitCount",
        "Math.max", "Math.min");
    private static final int MOST_LINES = 60;

    private final Due due = new Due();

    private FaceTest() { }

    public static void main(String[] args) throws IOException {
        FaceTest test = new FaceTest();
        test.face();
        test.members(DrawLooms.class);
        for (Class<?> inside : DrawLooms.class.getDeclaredClasses()) {
            test.inside(inside);
        }
        String code = codeAlone(Files.readString(SOURCE));
        test.words(code);
        test.library(code);
        test.lengths(code);
        test.due.finish();
    }

    private void face() {
        due.about("rule 1");
        due.is("public and final", DrawLooms.class.getModifiers(), Modifier.PUBLIC | Modifier.FINAL);
        Constructor<?>[] constructors = DrawLooms.class.getDeclaredConstructors();
        due.is("constructors", constructors.length, 1);
        due.is("public constructor", constructors[0].getModifiers(), Modifier.PUBLIC);
        Set<String> open = new TreeSet<>();
        for (Method method : DrawLooms.class.getDeclaredMethods()) {
            if (!Modifier.isPrivate(method.getModifiers())) {
                due.is(method.getName() + " is public alone", method.getModifiers(), Modifier.PUBLIC);
                due.is(method.getName() + " answers an int", method.getReturnType() == int.class ? 1 : 0, 1);
                open.add(method.getName() + "/" + method.getParameterCount());
            }
        }
        Set<String> face = new TreeSet<>(Arrays.asList(FACE.split(" ")));
        due.is("the face is " + open, open.equals(face) ? 1 : 0, 1);
        for (Field field : DrawLooms.class.getDeclaredFields()) {
            due.is(field.getName() + " is private", Modifier.isPrivate(field.getModifiers()) ? 1 : 0, 1);
        }
    }

    private void inside(Class<?> type) {
        due.about("rule 2");
        due.is(type.getName() + " is static", Modifier.isStatic(type.getModifiers()) ? 1 : 0, 1);
        due.is(type.getName() + " holds no class", type.getDeclaredClasses().length, 0);
        members(type);
    }

    private void members(Class<?> type) {
        due.about("rules 1, 5, 11 in " + type.getName());
        int fields = 0;
        for (Field field : type.getDeclaredFields()) {
            if (Modifier.isStatic(field.getModifiers())) {
                due.is(field.getName() + " is final", Modifier.isFinal(field.getModifiers()) ? 1 : 0, 1);
            } else {
                fields++;
            }
        }
        due.is("at most twenty fields", fields <= 20 ? 1 : 0, 1);
        for (Method method : type.getDeclaredMethods()) {
            due.is(method.getName() + " has at most seven parameters", method.getParameterCount() <= 7 ? 1 : 0, 1);
            due.is(method.getName() + " is a name of its own", isNameOfFace(method, type) ? 1 : 0, 0);
        }
    }

    private static boolean isNameOfFace(Member method, Class<?> type) {
        boolean isFace = type == DrawLooms.class && Modifier.isPublic(method.getModifiers());
        return !isFace && (" " + FACE).contains(" " + method.getName() + "/");
    }

    /** Comments go; their lines stay, so that methods keep their lengths. */
    private static String codeAlone(String source) {
        Matcher comment = Pattern.compile("(?s)/\\*.*?\\*/|//[^\n]*").matcher(source);
        return comment.replaceAll(found -> found.group().replaceAll("[^\n]", ""));
    }

    private void words(String code) {
        due.about("rules 4, 6 and 13");
        Matcher found = Pattern.compile(FORBIDDEN).matcher(code);
        while (found.find()) {
            due.is("a word that is not free: " + found.group(), 1, 0);
        }
        Matcher imports = Pattern.compile("import ([^;]*);").matcher(code);
        while (imports.find()) {
            due.is("import of " + imports.group(1), imports.group(1).equals("java.util.Arrays") ? 1 : 0, 1);
        }
        due.is("at most twelve classes", DrawLooms.class.getDeclaredClasses().length <= 12 ? 1 : 0, 1);
    }

    private void library(String code) {
        due.about("rule 4");
        Pattern call = Pattern.compile("(?<![.\\w])[A-Z]\\w*[a-z]\\w*\\.\\w+");
        Matcher used = call.matcher(code.replace("java.util.Arrays", ""));
        while (used.find()) {
            due.is("use of " + used.group(), LIBRARY.contains(used.group()) ? 1 : 0, 1);
        }
        due.is("texts", code.indexOf('"'), -1);
    }

    private void lengths(String code) {
        due.about("rule 11");
        int start = 0;
        String[] lines = code.split("\n");
        for (int i = 0; i < lines.length; i++) {
            if (lines[i].matches("( {4}| {8})(?!if |for |while |switch )\\w.*\\) \\{")) {
                start = i;
            } else if (lines[i].matches("( {4}| {8})\\}")) {
                due.is("at most sixty lines up to line " + (i + 1), i - start < MOST_LINES ? 1 : 0, 1);
            }
            if (lines[i].matches(" {4}private static final class .*")) {
                start = i;
            }
        }
    }
}
