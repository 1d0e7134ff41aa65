import java.lang.reflect.Constructor;
import java.lang.reflect.Field;
import java.lang.reflect.Method;
import java.lang.reflect.Modifier;
import java.util.Arrays;
import java.util.Set;
import java.util.TreeSet;

/** The class has the document's face and nothing else that others can see. */
final class FaceTest {
    private static final Set<String> FACE = new TreeSet<>(Arrays.asList(
            "public static final int NONE",
            "public ShareDisk()",
            "public void client(int,int,int) throws IllegalArgumentException",
            "public void gone(int) throws IllegalArgumentException,IllegalStateException",
            "public int submit(int,boolean,int,int,int) throws IllegalArgumentException",
            "public int dispatch()",
            "public long pass(int) throws IllegalArgumentException",
            "public int state(int) throws IndexOutOfBoundsException",
            "public int order(int)",
            "public long tag(int) throws IllegalArgumentException",
            "public long lag(int,int) throws IllegalArgumentException",
            "public long count(int)"));

    private static final Checks CHECKS = new Checks("FaceTest");

    public static void main(String[] args) {
        CHECKS.due("NONE", -1, ShareDisk.NONE);
        CHECKS.dueText("the class", "public final",
                Modifier.toString(ShareDisk.class.getModifiers()));
        CHECKS.dueText("the face", FACE.toString(), visibleMembers().toString());
        privateNamesAreNotPublicOnes();
        staticFieldsAreFinal();
        classesInsideAreStatic();
        CHECKS.end();
    }

    private static Set<String> visibleMembers() {
        Set<String> found = new TreeSet<>();
        for (Field field : ShareDisk.class.getDeclaredFields()) {
            addIfVisible(found, field.getModifiers(), field.toGenericString());
        }
        for (Constructor<?> constructor : ShareDisk.class.getDeclaredConstructors()) {
            addIfVisible(found, constructor.getModifiers(), constructor.toGenericString());
        }
        for (Method method : ShareDisk.class.getDeclaredMethods()) {
            addIfVisible(found, method.getModifiers(), method.toGenericString());
        }
        return found;
    }

    private static void addIfVisible(Set<String> found, int modifiers, String text) {
        if (!Modifier.isPrivate(modifiers)) {
            found.add(text.replace("ShareDisk.", "").replace("java.lang.", "").replace(", ", ","));
        }
    }

    private static void privateNamesAreNotPublicOnes() {
        Set<String> names = new TreeSet<>();
        for (Method method : ShareDisk.class.getDeclaredMethods()) {
            if (Modifier.isPublic(method.getModifiers())) {
                names.add(method.getName());
            }
        }
        for (Method method : ShareDisk.class.getDeclaredMethods()) {
            CHECKS.isTrue(method + " has a name of its own",
                    Modifier.isPublic(method.getModifiers()) || !names.contains(method.getName()));
        }
    }

    private static void staticFieldsAreFinal() {
        for (Field field : ShareDisk.class.getDeclaredFields()) {
            int modifiers = field.getModifiers();
            CHECKS.isTrue(field + " is final if it is static",
                    !Modifier.isStatic(modifiers) || Modifier.isFinal(modifiers));
        }
    }

    private static void classesInsideAreStatic() {
        for (Class<?> inside : ShareDisk.class.getDeclaredClasses()) {
            int modifiers = inside.getModifiers();
            CHECKS.isTrue(inside + " is static and not open to all", Modifier.isStatic(modifiers)
                    && !Modifier.isPublic(modifiers) && !Modifier.isProtected(modifiers));
        }
    }
}
