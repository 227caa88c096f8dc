import java.lang.reflect.Constructor;
import java.lang.reflect.Field;
import java.lang.reflect.Method;
import java.lang.reflect.Modifier;
import java.util.Arrays;
import java.util.TreeSet;

/** The face of the class is the document's, and no other member can be seen from outside. */
public final class PublicFaceTest {
    private static final String[] FACE = {
        "public int DiagramMoves.crossing(int,int,int,int,int)",
        "public int DiagramMoves.check(int)",
        "public int DiagramMoves.many(int)",
        "public int DiagramMoves.look(int,int)",
        "public int DiagramMoves.face(int,int)",
        "public int DiagramMoves.pattern(int)",
        "public int DiagramMoves.undo(int)",
        "public boolean DiagramMoves.slide(int)",
        "public boolean DiagramMoves.twist(int,int,boolean)",
        "public boolean DiagramMoves.push(int,boolean,int,boolean,boolean)",
        "public int DiagramMoves.simplify()"};

    public static void main(String[] args) {
        Due.test("The public face", PublicFaceTest::face);
        Due.end();
    }

    private static void face() {
        int modifiers = DiagramMoves.class.getModifiers();
        Due.is("public", true, Modifier.isPublic(modifiers));
        Due.is("final", true, Modifier.isFinal(modifiers));
        TreeSet<String> methods = new TreeSet<>();
        for (Method method : DiagramMoves.class.getDeclaredMethods()) {
            if (!Modifier.isPrivate(method.getModifiers())) {
                methods.add(method.toString());
            }
        }
        Due.text("methods", new TreeSet<>(Arrays.asList(FACE)).toString(), methods.toString());
        Due.text("classes inside that are public", "[]", Arrays.toString(DiagramMoves.class.getClasses()));
        Due.text("interfaces", "[]", Arrays.toString(DiagramMoves.class.getInterfaces()));
        Due.is("no class above it", true, DiagramMoves.class.getSuperclass() == Object.class);
        Due.text("package", "", DiagramMoves.class.getPackageName());
        Constructor<?>[] constructors = DiagramMoves.class.getDeclaredConstructors();
        Due.text("constructors", "[public DiagramMoves()]", Arrays.toString(constructors));
        for (Field field : DiagramMoves.class.getDeclaredFields()) {
            Due.is(field + " is private", true, Modifier.isPrivate(field.getModifiers()));
        }
    }
}
