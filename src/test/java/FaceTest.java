import java.lang.reflect.Constructor;
import java.lang.reflect.Field;
import java.lang.reflect.Method;
import java.lang.reflect.Modifier;
import java.util.ArrayList;
import java.util.Arrays;
import java.util.Collections;
import java.util.List;

/** The public face of the document, and rules 1 and 11 of LANGUAGE.md as far as reflection shows them. */
public final class FaceTest {
    private static final String[] FACE = {
        "int poke(int,int)", "int peek(int)", "long held(boolean,int)", "boolean give(int,int)", "int register(int)",
        "int pc()", "int control(int)", "boolean plan(int,int,int)", "int planned()", "int run(int)", "int cycles()",
        "int traps()", "int actCycle(int)", "int actAddress(int)", "long sent(int)", "int queued(boolean)",
        "int stores()", "int bus()", "int sources()"};

    public static void main(String[] args) {
        publicMethods();
        nothingElseIsSeen();
        classesInside();
        Due.end();
    }

    private static String signature(Method m) {
        List<String> types = new ArrayList<>();
        for (Class<?> type : m.getParameterTypes()) {
            types.add(type.getSimpleName());
        }
        return m.getReturnType().getSimpleName() + " " + m.getName() + "(" + String.join(",", types) + ")";
    }

    private static void publicMethods() {
        List<String> found = new ArrayList<>();
        for (Method m : CycleChip.class.getDeclaredMethods()) {
            if (Modifier.isPublic(m.getModifiers())) {
                found.add(signature(m));
                Due.same(m.getName() + " is static", Modifier.isStatic(m.getModifiers()), false);
            }
        }
        List<String> want = new ArrayList<>(Arrays.asList(FACE));
        Collections.sort(found);
        Collections.sort(want);
        Due.same("the face is " + found, found.equals(want), true);
        Constructor<?>[] makers = CycleChip.class.getDeclaredConstructors();
        Due.same("constructors", makers.length, 1);
        Due.same("the constructor is public", Modifier.isPublic(makers[0].getModifiers()), true);
        Due.same("its parameters", Arrays.equals(makers[0].getParameterTypes(), new Class<?>[] {int.class, int.class}), true);
        Due.same("the class is public and final", CycleChip.class.getModifiers() & (Modifier.PUBLIC | Modifier.FINAL),
            Modifier.PUBLIC | Modifier.FINAL);
    }

    private static void nothingElseIsSeen() {
        for (Method m : CycleChip.class.getDeclaredMethods()) {
            int seen = Modifier.PUBLIC | Modifier.PRIVATE;
            Due.same(m.getName() + " is public or private", (m.getModifiers() & seen) != 0, true);
        }
        for (Field f : CycleChip.class.getDeclaredFields()) {
            Due.same(f.getName() + " is private", Modifier.isPrivate(f.getModifiers()), true);
        }
    }

    private static void classesInside() {
        Class<?>[] inside = CycleChip.class.getDeclaredClasses();
        Due.same("twelve classes at most", inside.length <= 11, true);
        for (Class<?> c : inside) {
            Due.same(c.getSimpleName() + " is static", Modifier.isStatic(c.getModifiers()), true);
            int fields = 0;
            for (Field f : c.getDeclaredFields()) {
                boolean fixed = Modifier.isStatic(f.getModifiers());
                Due.same(c.getSimpleName() + "." + f.getName() + " static and not final",
                    fixed && !Modifier.isFinal(f.getModifiers()), false);
                fields += fixed ? 0 : 1;
            }
            Due.same(c.getSimpleName() + " has twenty fields at most", fields <= 20, true);
            for (Method m : c.getDeclaredMethods()) {
                Due.same(m.getName() + " has seven parameters at most", m.getParameterCount() <= 7, true);
                for (Method face : CycleChip.class.getDeclaredMethods()) {
                    boolean ofFace = Modifier.isPublic(face.getModifiers());
                    Due.same(m.getName() + " bears a public name", ofFace && face.getName().equals(m.getName()), false);
                }
            }
        }
    }
}
