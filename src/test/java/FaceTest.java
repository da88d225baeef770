import java.lang.reflect.Constructor;
import java.lang.reflect.Field;
import java.lang.reflect.Method;
import java.lang.reflect.Modifier;
import java.util.TreeSet;

/** The class has the document's face, with its throws clauses in their order, and nothing else that can be seen. */
public final class FaceTest {
    private static final String IAE = "IllegalArgumentException";
    private static final String ISE = "IllegalStateException";
    private static final String IOOBE = "IndexOutOfBoundsException";

    private static final String[] FACE = {
        "int type(int) " + IAE + " " + ISE,
        "int wipe()", "int fault()", "int patternFault()",
        "int run() " + ISE,
        "int keep(int) " + IOOBE + " " + ISE,
        "int play(int) " + IOOBE + " " + ISE,
        "int stream(int) " + IOOBE + " " + ISE,
        "int reason()",
        "int scriptLength(int) " + IOOBE,
        "int scriptAt(int,int) " + IOOBE,
        "int undo() " + ISE,
        "int undoRun() " + ISE,
        "int deeds()", "int lines()",
        "int length(int) " + IOOBE,
        "int at(int,int) " + IOOBE,
        "int id(int) " + IOOBE,
        "int lineOf(int)", "int present()",
        "int mark(int) " + IOOBE,
        "int sample(int,int) " + IAE + " " + ISE,
        "int held()",
        "int heldLength(int) " + IOOBE,
        "int heldAt(int,int) " + IOOBE,
        "int outs()",
        "int outLength(int) " + IOOBE,
        "int outAt(int,int) " + IOOBE,
        "int clearOut()",
        "int fileRows(int) " + IOOBE,
        "int fileLength(int,int) " + IOOBE,
        "int fileAt(int,int,int) " + IOOBE,
        "int find(boolean) " + ISE,
        "int findStart(int) " + IOOBE + " " + ISE,
        "int findEnd(int) " + IOOBE + " " + ISE,
        "int differ(int) " + IOOBE,
        "int pairOf(int,int) " + IOOBE,
        "boolean isSound()",
    };

    private static String told(Method method) {
        StringBuilder told = new StringBuilder();
        told.append(method.getReturnType().getSimpleName()).append(' ').append(method.getName()).append('(');
        for (int i = 0; i < method.getParameterCount(); i++) {
            told.append(i == 0 ? "" : ",").append(method.getParameterTypes()[i].getSimpleName());
        }
        told.append(')');
        for (Class<?> thrown : method.getExceptionTypes()) {
            told.append(' ').append(thrown.getSimpleName());
        }
        return told.toString();
    }

    public static void main(String[] args) {
        Check check = new Check();
        check.topic("the face");
        TreeSet<String> due = new TreeSet<>();
        for (String line : FACE) {
            due.add(line);
        }
        TreeSet<String> names = new TreeSet<>();
        TreeSet<String> seen = new TreeSet<>();
        for (Method method : Lineorders.class.getDeclaredMethods()) {
            if (!Modifier.isPrivate(method.getModifiers())) {
                seen.add(told(method));
                names.add(method.getName());
            }
        }
        check.same("the methods", due.toString(), seen.toString());
        check.same("how many", 38, seen.size());
        for (Field field : Lineorders.class.getDeclaredFields()) {
            boolean isFace = field.getName().equals("NONE");
            check.same("the field " + field.getName() + " is private", isFace ? 0 : 1,
                Modifier.isPrivate(field.getModifiers()) ? 1 : 0);
        }
        check.same("NONE", -1, Lineorders.NONE);
        check.holds("the class is public", Modifier.isPublic(Lineorders.class.getModifiers()));
        check.holds("the class is final", Modifier.isFinal(Lineorders.class.getModifiers()));
        for (Constructor<?> made : Lineorders.class.getDeclaredConstructors()) {
            check.same("the constructor", "public Lineorders()", made.toString());
        }
        for (Class<?> inside : Lineorders.class.getDeclaredClasses()) {
            check.holds("a class inside is private and static",
                Modifier.isPrivate(inside.getModifiers()) && Modifier.isStatic(inside.getModifiers()));
            for (Method method : inside.getDeclaredMethods()) {
                check.holds("a name that the face has: " + method.getName(), !names.contains(method.getName()));
            }
        }
        System.exit(check.close());
    }
}
