import java.io.IOException;
import java.lang.reflect.Executable;
import java.lang.reflect.Field;
import java.lang.reflect.Member;
import java.lang.reflect.Method;
import java.lang.reflect.Modifier;
import java.nio.file.Files;
import java.nio.file.Path;
import java.util.ArrayList;
import java.util.Arrays;
import java.util.HashSet;
import java.util.List;
import java.util.Set;
import java.util.regex.Matcher;
import java.util.regex.Pattern;

/** What can be seen of LANGUAGE.md and of the document's face without running anything. */
final class SourceTest {
    private static final String[] FACE = {"hole6", "stop1", "of2", "terms2", "feed5", "end1", "row0", "rinds0", "law0",
        "fault0", "force1", "cell2", "left1", "slice3", "vast3", "tally4", "forget0", "judge0", "wax2", "dipped5",
        "pieces2", "fewest3", "view4", "views1", "anew1", "wire1", "screw5", "unscrew0", "meet1", "told3", "fits1",
        "ant3", "feast2", "drawn1", "image1", "back1", "count1", "status0"};
    private static final String[] NOT_ALLOWED = {"\\bthrow\\b", "\\bthrows\\b", "\\btry\\b", "\\bcatch\\b",
        "\\bsynchronized\\b", "\\bassert\\b", "\\bimport\\b", "\\bpackage\\b", "->", "::", "Exact\\b", "\\bSystem\\b",
        "\\bObject\\b", "\\bRandom\\b", "\\bThread\\b", "_VALUE\\b", "@", "\\bfloat\\b", "\\bdouble\\b", "\"\\s*\\+",
        "\\+\\s*\"", "[^\\x00-\\x7f]", "\\bnumberOf"};

    private SourceTest() {
    }

    static void face(Checks c) {
        Set<String> found = new HashSet<>();
        Set<String> names = new HashSet<>();
        for (String one : FACE) {
            names.add(one.replaceAll("[0-9]", ""));
        }
        for (Method method : CheeseCube.class.getDeclaredMethods()) {
            if (Modifier.isPublic(method.getModifiers())) {
                found.add(method.getName() + method.getParameterCount());
                boolean isLong = method.getName().equals("vast") || method.getName().equals("dipped");
                c.holds(method.getName() + " answers as told", method.getReturnType() == (isLong ? long.class : int.class));
                c.holds(method.getName() + " takes ints",
                        Arrays.stream(method.getParameterTypes()).allMatch(type -> type == int.class));
                c.holds(method.getName() + " is no static one", !Modifier.isStatic(method.getModifiers()));
            } else {
                c.holds(method.getName() + " is private", Modifier.isPrivate(method.getModifiers()));
                c.holds(method.getName() + " is no name of the face", !names.contains(method.getName()));
            }
        }
        c.holds("the face " + found, found.equals(new HashSet<>(Arrays.asList(FACE))));
        c.due("constructors", CheeseCube.class.getDeclaredConstructors().length, 1);
        c.due("public ones without numbers", CheeseCube.class.getConstructors()[0].getParameterCount(), 0);
        c.holds("public and final", Modifier.isPublic(CheeseCube.class.getModifiers())
                && Modifier.isFinal(CheeseCube.class.getModifiers()));
        for (Field field : CheeseCube.class.getDeclaredFields()) {
            boolean isNone = field.getName().equals("NONE");
            c.holds(field.getName(), isNone ? Modifier.isPublic(field.getModifiers())
                    : Modifier.isPrivate(field.getModifiers()));
        }
        for (Class<?> inner : CheeseCube.class.getDeclaredClasses()) {
            for (Method method : inner.getDeclaredMethods()) {
                c.holds(inner.getSimpleName() + "." + method.getName() + " is no name of the face",
                        !names.contains(method.getName()));
            }
        }
    }

    static void shape(Checks c) {
        List<Class<?>> classes = new ArrayList<>(Arrays.asList(CheeseCube.class.getDeclaredClasses()));
        for (Class<?> one : classes) {
            c.holds(one + " is static", Modifier.isStatic(one.getModifiers()));
            c.due(one + " has classes", one.getDeclaredClasses().length, 0);
        }
        classes.add(CheeseCube.class);
        c.holds("some twelve classes", classes.size() <= 12);
        for (Class<?> one : classes) {
            int fields = 0;
            for (Field field : one.getDeclaredFields()) {
                boolean isStatic = Modifier.isStatic(field.getModifiers());
                fields += isStatic ? 0 : 1;
                c.holds(field + " is final", !isStatic || Modifier.isFinal(field.getModifiers()));
            }
            c.holds(one + " has some twenty fields", fields <= 20);
            List<Executable> calls = new ArrayList<>(Arrays.asList(one.getDeclaredMethods()));
            calls.addAll(Arrays.asList(one.getDeclaredConstructors()));
            for (Executable call : calls) {
                c.holds(((Member) call).getName() + " has at most seven parameters", call.getParameterCount() <= 7);
            }
        }
    }

    static void words(Checks c) throws IOException {
        String source = Files.readString(Path.of("src/main/java/CheeseCube.java"));
        String code = source.replaceAll("(?s)/\\*.*?\\*/", "").replaceAll("//[^\n]*", "");
        for (String one : NOT_ALLOWED) {
            Matcher matcher = Pattern.compile(one).matcher(code);
            c.holds("not allowed: " + one, !matcher.find());
        }
        c.holds("library by what is listed", Pattern.compile("\\b(Math|Integer|Long|String)\\.(?!max|min|bitCount)")
                .matcher(code).results().count() == 0);
        int length = 0;
        for (String line : code.split("\n")) {
            length = line.matches("    (    )?[a-zA-Z].*\\{") ? 0 : length + 1;
            c.holds("a method of some sixty lines, at " + line, length <= 62 || !line.matches("    (    )?}"));
        }
    }
}
