import java.lang.reflect.Constructor;
import java.lang.reflect.Field;
import java.lang.reflect.Member;
import java.lang.reflect.Method;
import java.lang.reflect.Modifier;
import java.nio.file.Files;
import java.nio.file.Path;
import java.util.ArrayList;
import java.util.List;
import java.util.Set;
import java.util.TreeSet;
import java.util.regex.Pattern;

/** The public face is the document's and nothing more, and the file keeps to rules of LANGUAGE.md. */
public final class FaceTest {
    private static final Check C = new Check("FaceTest");
    private static final String[] FACE = {
        "person(long, int, int)", "habit(int, int, int)", "personIs(int, int)", "gain(int, boolean)",
        "paper(int, int, long, int)", "as(int, int)", "paperIs(int, int)", "owed(int, int)", "pay(int)",
        "tear(int)", "thin()", "feed(int, long)", "text(int)", "force(int, int, int)", "law(int, int)",
        "unlike()", "days(int)", "price(int)", "index(int, int)", "press(long)", "give(int, long)", "tax()",
        "swap(int)", "need(int)", "melts(int)", "choices(int, int)", "proves(int, int)",
        "beside(int, long, int)", "sheet(int, int, int)", "put(int, int, int)",
        "copy(int, int, int, int, int)", "image()", "restore()", "count(int)"};
    private static final String[] BANNED = {
        "\\bthrow\\b", "\\bthrows\\b", "\\btry\\b", "\\bcatch\\b", "\\bsynchronized\\b", "\\bassert\\b", "->", "::",
        "Exact\\b", "\\bSystem\\.(?!arraycopy)", "\\bnew Object\\b", "\\bMap\\b", "\\bhashCode\\b", "\\bpackage\\b",
        "\\bNaN\\b", "\\bwhile \\(true\\)", "\\bfor \\(;;\\)"};

    public static void main(String[] args) throws Exception {
        face();
        members();
        classesInside();
        words(Path.of(args.length > 0 ? args[0] : "src/main/java/MeltingMarks.java"));
        C.end();
    }

    private static void face() {
        int mods = MeltingMarks.class.getModifiers();
        C.holds("public and final", Modifier.isPublic(mods) && Modifier.isFinal(mods));
        C.holds("no package", MeltingMarks.class.getPackageName().isEmpty());
        Set<String> due = new TreeSet<>(List.of(FACE));
        Set<String> got = new TreeSet<>();
        for (Method m : MeltingMarks.class.getDeclaredMethods()) {
            if (Modifier.isPublic(m.getModifiers())) {
                got.add(signature(m));
                C.holds("long " + m.getName(), m.getReturnType() == long.class);
                C.holds("no static " + m.getName(), !Modifier.isStatic(m.getModifiers()));
            }
        }
        C.holds("the face: " + got, got.equals(due));
        Constructor<?>[] all = MeltingMarks.class.getDeclaredConstructors();
        C.holds("one public constructor", all.length == 1 && Modifier.isPublic(all[0].getModifiers())
            && all[0].getParameterCount() == 0);
    }

    private static String signature(Method m) {
        List<String> types = new ArrayList<>();
        for (Class<?> type : m.getParameterTypes()) {
            types.add(type.getName());
        }
        return m.getName() + "(" + String.join(", ", types) + ")";
    }

    private static void members() {
        Set<String> names = new TreeSet<>();
        for (String one : FACE) {
            names.add(one.substring(0, one.indexOf('(')));
        }
        List<Member> members = new ArrayList<>(List.of(MeltingMarks.class.getDeclaredMethods()));
        members.addAll(List.of(MeltingMarks.class.getDeclaredFields()));
        for (Member m : members) {
            int mods = m.getModifiers();
            C.holds("private: " + m.getName(), Modifier.isPublic(mods) || Modifier.isPrivate(mods));
            C.holds("not by a public name: " + m.getName(), Modifier.isPublic(mods) || m instanceof Field
                || !names.contains(m.getName()));
        }
    }

    private static void classesInside() {
        Class<?>[] inside = MeltingMarks.class.getDeclaredClasses();
        C.holds("some twelve classes", inside.length <= 11);
        List<Class<?>> all = new ArrayList<>(List.of(inside));
        all.add(MeltingMarks.class);
        for (Class<?> one : all) {
            int fields = 0;
            for (Field f : one.getDeclaredFields()) {
                boolean still = Modifier.isStatic(f.getModifiers());
                fields += still ? 0 : 1;
                C.holds("final: " + f, !still || Modifier.isFinal(f.getModifiers()));
            }
            C.holds("some twenty fields: " + one, fields <= 20);
            C.holds("static: " + one, one == MeltingMarks.class || Modifier.isStatic(one.getModifiers()));
            for (Method m : one.getDeclaredMethods()) {
                C.holds("seven parameters: " + m, m.getParameterCount() <= 7);
            }
        }
    }

    private static void words(Path file) throws Exception {
        String code = Files.readString(file).replaceAll("(?s)/\\*.*?\\*/", "").replaceAll("//[^\n]*", "");
        for (String banned : BANNED) {
            C.holds("none of " + banned, !Pattern.compile(banned).matcher(code).find());
        }
        for (String line : code.split("\n")) {
            if (line.startsWith("import ")) {
                C.holds(line, line.equals("import java.util.Arrays;"));
            }
        }
        for (char c : code.toCharArray()) {
            if (c > 126) {
                C.holds("a sign above 126", false);
            }
        }
    }
}
