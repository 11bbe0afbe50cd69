import java.lang.reflect.Constructor;
import java.lang.reflect.Field;
import java.lang.reflect.Method;
import java.lang.reflect.Modifier;
import java.util.Arrays;
import java.util.List;
import java.util.Set;
import java.util.TreeSet;

/** The public face, and what LANGUAGE.md says of it (rules 1, 2, 5 and 11), as the compiled class shows it. */
public final class FaceTest {
    private static final Expect expect = new Expect();

    private static final List<String> CALLS = List.of(
        "public int format()",
        "public boolean poke(int, int)",
        "public int peek(int)",
        "public boolean seal(int)",
        "public boolean commit(long, int)",
        "public int check()",
        "public int repair(int)",
        "public int inode(int, int)",
        "public int read(int, int)",
        "public int find(int, long)",
        "public int make(int, long, int)",
        "public boolean append(int, int)",
        "public boolean link(int, long, int)",
        "public boolean unlink(int, long)"
    );

    public static void main(String[] args) {
        theClass();
        theConstant();
        theConstructor();
        theCalls();
        namesOfPrivateMethods();
        classesInside();
        staticFields();
        expect.end();
    }

    private static void theClass() {
        expect.sentence("public final class FsckDesk {");
        int modifiers = FsckDesk.class.getModifiers();
        expect.yes("public", Modifier.isPublic(modifiers));
        expect.yes("final", Modifier.isFinal(modifiers));
        expect.yes("without a package", FsckDesk.class.getPackageName().isEmpty());
        expect.yes("nothing above it", FsckDesk.class.getSuperclass() == Object.class);
        expect.same("interfaces", FsckDesk.class.getInterfaces().length, 0);
    }

    private static void theConstant() {
        expect.sentence("public static final int NONE = -1;");
        expect.same("NONE", FsckDesk.NONE, -1);
        Set<String> seen = new TreeSet<>();
        for (Field field : FsckDesk.class.getDeclaredFields()) {
            if (!Modifier.isPrivate(field.getModifiers())) {
                seen.add(field.toString());
            }
        }
        expect.yes("it is such a constant", seen.remove("public static final int FsckDesk.NONE"));
        expect.yes("and there is no other: " + seen, seen.isEmpty());
    }

    private static void theConstructor() {
        expect.sentence("public FsckDesk();");
        Constructor<?>[] all = FsckDesk.class.getDeclaredConstructors();
        expect.same("constructors", all.length, 1);
        expect.same("its parameters", all[0].getParameterCount(), 0);
        expect.yes("public", Modifier.isPublic(all[0].getModifiers()));
    }

    private static void theCalls() {
        expect.sentence("public int format(); (..) public boolean unlink(int dir, long name);");
        Set<String> seen = new TreeSet<>();
        for (Method method : FsckDesk.class.getDeclaredMethods()) {
            if (!Modifier.isPrivate(method.getModifiers()) && !method.isSynthetic()) {
                seen.add(faceOf(method));
            }
        }
        for (String call : CALLS) {
            expect.yes(call, seen.remove(call));
        }
        expect.yes("and there is no other: " + seen, seen.isEmpty());
    }

    private static String faceOf(Method method) {
        String head = Modifier.toString(method.getModifiers()) + " " + method.getReturnType() + " " + method.getName();
        String parameters = Arrays.toString(method.getParameterTypes());
        return head + "(" + parameters.substring(1, parameters.length() - 1) + ")";
    }

    private static void namesOfPrivateMethods() {
        expect.sentence("[LANGUAGE.md 1] No private method bears the name of a public one.");
        for (Method method : FsckDesk.class.getDeclaredMethods()) {
            boolean isPublicName = CALLS.stream().anyMatch(call -> call.contains(" " + method.getName() + "("));
            expect.same(method.getName(), isPublicName ? 1 : 0, Modifier.isPublic(method.getModifiers()) ? 1 : 0);
        }
    }

    private static void classesInside() {
        expect.sentence("[LANGUAGE.md 1, 11] the classes inside it, which are private or package-visible and static");
        Class<?>[] inside = FsckDesk.class.getDeclaredClasses();
        expect.yes("some twelve classes at most", inside.length < 12);
        for (Class<?> each : inside) {
            int modifiers = each.getModifiers();
            expect.yes(each + " is static", Modifier.isStatic(modifiers));
            expect.no(each + " is hidden", Modifier.isPublic(modifiers) || Modifier.isProtected(modifiers));
            expect.same("classes inside " + each, each.getDeclaredClasses().length, 0);
            for (Method method : each.getDeclaredMethods()) {
                expect.yes(method + ": seven parameters at most", method.getParameterCount() <= 7);
            }
        }
    }

    private static void staticFields() {
        expect.sentence("[LANGUAGE.md 5] Static fields are final: constants of int, long, boolean, char or String");
        staticFieldsOf(FsckDesk.class);
        for (Class<?> each : FsckDesk.class.getDeclaredClasses()) {
            staticFieldsOf(each);
        }
    }

    private static void staticFieldsOf(Class<?> owner) {
        List<Class<?>> allowed = List.of(int.class, long.class, boolean.class, char.class, String.class);
        for (Field field : owner.getDeclaredFields()) {
            if (Modifier.isStatic(field.getModifiers())) {
                expect.yes(field + " is final", Modifier.isFinal(field.getModifiers()));
                expect.yes(field + " is a constant", allowed.contains(field.getType()));
            }
        }
    }
}
