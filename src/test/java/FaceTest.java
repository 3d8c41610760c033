import java.io.IOException;
import java.lang.reflect.Field;
import java.lang.reflect.Method;
import java.lang.reflect.Modifier;
import java.nio.file.Files;
import java.nio.file.Path;
import java.util.Arrays;
import java.util.Set;
import java.util.TreeSet;

/** The rules of LANGUAGE.md that can be seen from outside: the face (1), static state (5), sizes (11), words that are ruled out. */
public final class FaceTest {
    private static final Check CHECK = new Check();
    private static final String[] FACE = {
        "public int FieldKeeper.pitch(int,int)",
        "public int FieldKeeper.game(int,int,int,int,int,int)",
        "public int FieldKeeper.lay(int)",
        "public int FieldKeeper.feed(long,long,long)",
        "public int FieldKeeper.text()",
        "public int FieldKeeper.day(int,int)",
        "public int FieldKeeper.turn(int)",
        "public int FieldKeeper.grass(int,int,int)",
        "public int FieldKeeper.look(int,int) throws java.util.NoSuchElementException",
        "public int FieldKeeper.at(int,int,int)",
        "public int FieldKeeper.club(int,int)",
        "public int FieldKeeper.field(int,int)",
        "public int FieldKeeper.would(int,int)",
        "public int FieldKeeper.count(int)"};
    private static final String[] RULED_OUT = {"catch", "finally", "->", "::", "assert ", "synchronized", "double", "float",
        "instanceof", "System.", "Random", "Exact(", ".ordinal", ".hashCode", ".toString", "lambda", "import java.util.*"};

    private static void face() {
        Set<String> found = new TreeSet<>();
        Set<String> names = new TreeSet<>();
        for (Method m : FieldKeeper.class.getDeclaredMethods()) {
            if (!Modifier.isPrivate(m.getModifiers())) {
                found.add(m.toString());
                names.add(m.getName());
            }
        }
        Set<String> due = new TreeSet<>(Arrays.asList(FACE));
        CHECK.due("the face " + found, found.equals(due) ? 1 : 0, 1);
        CHECK.due("public and final", FieldKeeper.class.getModifiers(), Modifier.PUBLIC | Modifier.FINAL);
        CHECK.due("one constructor", FieldKeeper.class.getDeclaredConstructors().length, 1);
        CHECK.due("NONE", FieldKeeper.NONE, -1);
        for (Method m : FieldKeeper.class.getDeclaredMethods()) {
            if (Modifier.isPrivate(m.getModifiers())) {
                CHECK.due("a private method's name: " + m.getName(), names.contains(m.getName()) ? 1 : 0, 0);
            }
        }
    }

    private static void fields(Class<?> owner, boolean outer) {
        int ofAnObject = 0;
        for (Field f : owner.getDeclaredFields()) {
            int modifiers = f.getModifiers();
            ofAnObject += Modifier.isStatic(modifiers) ? 0 : 1;
            boolean hidden = Modifier.isPrivate(modifiers) || f.getName().equals("NONE");
            CHECK.due("hidden: " + f, !outer || hidden ? 1 : 0, 1);
            CHECK.due("static is final: " + f, !Modifier.isStatic(modifiers) || Modifier.isFinal(modifiers) ? 1 : 0, 1);
        }
        CHECK.due("at most twenty fields: " + owner, ofAnObject <= 20 ? 1 : 0, 1);
    }

    private static void parameters(Class<?> owner) {
        for (Method m : owner.getDeclaredMethods()) {
            CHECK.due("at most seven parameters: " + m, m.getParameterCount() <= 7 ? 1 : 0, 1);
        }
    }

    private static void classesInside() {
        fields(FieldKeeper.class, true);
        parameters(FieldKeeper.class);
        Class<?>[] inside = FieldKeeper.class.getDeclaredClasses();
        CHECK.due("at most twelve classes", inside.length < 12 ? 1 : 0, 1);
        for (Class<?> c : inside) {
            fields(c, false);
            parameters(c);
            CHECK.due("static: " + c, Modifier.isStatic(c.getModifiers()) ? 1 : 0, 1);
            CHECK.due("not public: " + c, Modifier.isPublic(c.getModifiers()) ? 1 : 0, 0);
        }
    }

    private static void source() throws IOException {
        String source = Files.readString(Path.of("src/main/java/FieldKeeper.java"));
        for (String word : RULED_OUT) {
            CHECK.due("ruled out: " + word, source.indexOf(word), -1);
        }
        CHECK.due("one import", source.split("\nimport |^import ", -1).length, 2);
        CHECK.due("signs 1 to 127 alone", source.chars().filter(c -> c > 126).count(), 0);
        CHECK.due("throws only in look", source.split("throw new ", -1).length, 2);
    }

    public static void main(String[] args) throws IOException {
        face();
        classesInside();
        source();
        CHECK.finish();
    }
}
