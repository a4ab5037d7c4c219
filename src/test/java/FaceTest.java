import java.lang.reflect.Constructor;
import java.lang.reflect.Field;
import java.lang.reflect.Method;
import java.lang.reflect.Modifier;
import java.util.Arrays;
import java.util.Set;
import java.util.TreeSet;

/** The public face of the document, and rules 1 and 5 of LANGUAGE.md: nothing else can be seen, no state is static. */
final class FaceTest {
    private static final Check CHECK = new Check("FaceTest");
    private static final String[] FACE = {
        "public boolean GrantNet.in(int,int)",
        "public boolean GrantNet.lose(int,int)",
        "public boolean GrantNet.spine(int,boolean)",
        "public int GrantNet.chosen(int,int)",
        "public int GrantNet.finished(int,int)",
        "public int GrantNet.host(int,int)",
        "public int GrantNet.message(int,int,int,int)",
        "public int GrantNet.packet(int,int)",
        "public int GrantNet.queue(int,int)",
        "public int GrantNet.received(int,int)",
        "public int GrantNet.sent(int,int)",
        "public int GrantNet.slot(int) throws java.lang.IllegalArgumentException",
        "public int GrantNet.total(int)"};

    public static void main(String[] args) {
        CHECK.due("public and final", GrantNet.class.getModifiers(), Modifier.PUBLIC | Modifier.FINAL);
        methods();
        fields();
        Constructor<?>[] constructors = GrantNet.class.getDeclaredConstructors();
        CHECK.due("constructors", constructors.length, 1);
        CHECK.due("the constructor is public", constructors[0].getModifiers(), Modifier.PUBLIC);
        CHECK.due("and takes nothing", constructors[0].getParameterCount(), 0);
        for (Class<?> c : GrantNet.class.getDeclaredClasses()) {
            CHECK.due(c + " is static", Modifier.isStatic(c.getModifiers()), true);
            CHECK.due(c + " is not for all", Modifier.isPublic(c.getModifiers()), false);
            staticFieldsAreFinal(c);
        }
        staticFieldsAreFinal(GrantNet.class);
        CHECK.end();
    }

    private static void methods() {
        Set<String> face = new TreeSet<>();
        Set<String> publicNames = new TreeSet<>();
        Set<String> privateNames = new TreeSet<>();
        for (Method m : GrantNet.class.getDeclaredMethods()) {
            if (Modifier.isPrivate(m.getModifiers())) {
                privateNames.add(m.getName());
            } else {
                publicNames.add(m.getName());
                face.add(m.toString());
            }
        }
        CHECK.due("the face " + face, face.equals(new TreeSet<>(Arrays.asList(FACE))), true);
        privateNames.retainAll(publicNames);
        CHECK.due("no private method bears a public name " + privateNames, privateNames.isEmpty(), true);
    }

    private static void fields() {
        for (Field f : GrantNet.class.getDeclaredFields()) {
            boolean isConstant = f.getName().equals("NONE") && Modifier.isPublic(f.getModifiers());
            CHECK.due(f + " is the constant or private", isConstant || Modifier.isPrivate(f.getModifiers()), true);
        }
        CHECK.due("NONE", GrantNet.NONE, -1);
    }

    private static void staticFieldsAreFinal(Class<?> c) {
        for (Field f : c.getDeclaredFields()) {
            int modifiers = f.getModifiers();
            CHECK.due(f + " is no static state", Modifier.isStatic(modifiers) && !Modifier.isFinal(modifiers), false);
        }
    }
}
