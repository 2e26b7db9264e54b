import java.lang.reflect.Constructor;
import java.lang.reflect.Field;
import java.lang.reflect.Method;
import java.lang.reflect.Modifier;
import java.util.Set;
import java.util.TreeSet;

/** The public face: what the document lists, and no other member that can be seen from outside. */
public final class FaceTest {
    private static final Due due = new Due("FaceTest");

    public static void main(String[] args) {
        constantsHaveTheirValues();
        theClassIsPublicAndFinal();
        visibleMembersAreThoseOfTheDocument();
        classesInsideAreNotPartOfIt();
        noPrivateMethodBearsAPublicName();
        staticFieldsAreFinal();
        theConstructorThrowsNothing();
        due.end();
    }

    private static void constantsHaveTheirValues() {
        due.answer("UNKNOWN", LoopSorter.UNKNOWN, -11);
        due.answer("OUTSIDE", LoopSorter.OUTSIDE, -12);
        due.answer("STATE", LoopSorter.STATE, -13);
        due.answer("ROOM", LoopSorter.ROOM, -14);
    }

    private static void theClassIsPublicAndFinal() {
        int modifiers = LoopSorter.class.getModifiers();
        due.answer("public", Modifier.isPublic(modifiers) ? 1 : 0, 1);
        due.answer("final", Modifier.isFinal(modifiers) ? 1 : 0, 1);
    }

    private static void visibleMembersAreThoseOfTheDocument() {
        Set<String> wanted = new TreeSet<>(Set.of(
            "public static final int LoopSorter.UNKNOWN",
            "public static final int LoopSorter.OUTSIDE",
            "public static final int LoopSorter.STATE",
            "public static final int LoopSorter.ROOM",
            "public LoopSorter(int,int)",
            "public int LoopSorter.induct(int,int,int)",
            "public int LoopSorter.step(int)",
            "public int LoopSorter.out(int,int)",
            "public int LoopSorter.tray(int) throws java.lang.ArrayIndexOutOfBoundsException",
            "public int LoopSorter.full(int,boolean)",
            "public int LoopSorter.missed(int)",
            "public int LoopSorter.found(int,int) throws java.lang.ArrayIndexOutOfBoundsException",
            "public int LoopSorter.speed(int)",
            "public long LoopSorter.share(int)",
            "public int LoopSorter.round(int)"));
        Set<String> seen = visibleMembers();
        for (String member : wanted) {
            due.answer("has " + member, seen.contains(member) ? 1 : 0, 1);
        }
        for (String member : seen) {
            due.answer("may have " + member, wanted.contains(member) ? 1 : 0, 1);
        }
    }

    private static Set<String> visibleMembers() {
        Set<String> seen = new TreeSet<>();
        for (Field field : LoopSorter.class.getDeclaredFields()) {
            if (!Modifier.isPrivate(field.getModifiers())) {
                seen.add(field.toGenericString());
            }
        }
        for (Constructor<?> constructor : LoopSorter.class.getDeclaredConstructors()) {
            if (!Modifier.isPrivate(constructor.getModifiers())) {
                seen.add(constructor.toGenericString());
            }
        }
        for (Method method : LoopSorter.class.getDeclaredMethods()) {
            if (!Modifier.isPrivate(method.getModifiers())) {
                seen.add(method.toGenericString());
            }
        }
        return seen;
    }

    /** LANGUAGE.md, rule 1: "the classes inside it, which are private or package-visible and static". */
    private static void classesInsideAreNotPartOfIt() {
        for (Class<?> inside : LoopSorter.class.getDeclaredClasses()) {
            int modifiers = inside.getModifiers();
            boolean isSeen = Modifier.isPublic(modifiers) || Modifier.isProtected(modifiers);
            due.answer("seen from outside: " + inside.getName(), isSeen ? 1 : 0, 0);
            due.answer("static: " + inside.getName(), Modifier.isStatic(modifiers) ? 1 : 0, 1);
        }
        due.answer("interfaces", LoopSorter.class.getInterfaces().length, 0);
        due.answer("extends Object", LoopSorter.class.getSuperclass() == Object.class ? 1 : 0, 1);
    }

    /** LANGUAGE.md, rule 1: "No private method bears the name of a public one." */
    private static void noPrivateMethodBearsAPublicName() {
        for (Method method : LoopSorter.class.getDeclaredMethods()) {
            int sameName = 0;
            for (Method other : LoopSorter.class.getDeclaredMethods()) {
                if (Modifier.isPublic(other.getModifiers()) && other.getName().equals(method.getName())) {
                    sameName++;
                }
            }
            due.answer(method.toString(), sameName, Modifier.isPublic(method.getModifiers()) ? 1 : 0);
        }
    }

    /** LANGUAGE.md, rule 5: objects share nothing that changes. */
    private static void staticFieldsAreFinal() {
        for (Field field : LoopSorter.class.getDeclaredFields()) {
            if (Modifier.isStatic(field.getModifiers())) {
                due.answer("final: " + field, Modifier.isFinal(field.getModifiers()) ? 1 : 0, 1);
            }
        }
    }

    private static void theConstructorThrowsNothing() {
        for (Constructor<?> constructor : LoopSorter.class.getConstructors()) {
            due.answer("declared throws", constructor.getExceptionTypes().length, 0);
        }
    }
}
