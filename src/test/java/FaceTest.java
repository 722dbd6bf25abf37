import java.lang.reflect.Constructor;
import java.lang.reflect.Field;
import java.lang.reflect.Method;
import java.lang.reflect.Modifier;
import java.util.Arrays;
import java.util.Set;
import java.util.TreeSet;

/** The class has the document's face and no other member that is not private. */
public final class FaceTest {
    private static final String[] FACE = {
        "int hoe(int,int,int)", "int drop(int)", "int colours(int)", "int turn(int,int)", "int paint(int,int,int)",
        "int manner(int)", "int at(int,int)", "int hoeOf(int,int)", "int on(int,int)", "int step(int)", "int back()",
        "boolean isInverse()", "int trail(int)", "int painted(int,int)", "int count(int)", "int fields(int)",
        "int fieldsAgain(int)", "int field(int,int)", "int greatest(int)", "int willBe(int,int)",
        "int willMeet(int)", "int meetIn()", "int isBackIn(int)", "int highway(int)", "int ranked(int)",
        "int rowLine(int)", "int turnLine()", "char character(int)", "int append(char)", "int run()",
        "int errorPosition()", "int refusal(boolean)", "int account(int)", "boolean isWell()",
        "double meanColour()", "float paintedShare()", "int undo()", "int save()", "int restore()",
    };

    public static void main(String[] args) {
        Set<String> due = new TreeSet<>(Arrays.asList(FACE));
        Set<String> names = new TreeSet<>();
        Set<String> open = new TreeSet<>();
        for (Method method : LawnGardeners.class.getDeclaredMethods()) {
            if (Modifier.isPublic(method.getModifiers())) {
                names.add(method.getName());
            }
            if (!Modifier.isPrivate(method.getModifiers()) && !method.isSynthetic()) {
                open.add(shown(method));
            }
        }
        Check.due("methods that are not private", due, () -> open);
        Check.due("public and final", Modifier.PUBLIC | Modifier.FINAL, () -> LawnGardeners.class.getModifiers());
        for (Constructor<?> constructor : LawnGardeners.class.getDeclaredConstructors()) {
            Check.due("constructor", "public LawnGardeners()", constructor::toString);
        }
        for (Field field : LawnGardeners.class.getDeclaredFields()) {
            Check.due(field.getName() + " is private", true, () -> Modifier.isPrivate(field.getModifiers()));
        }
        checkInside(LawnGardeners.class, names);
        Check.end();
    }

    private static void checkInside(Class<?> outer, Set<String> names) {
        for (Method method : outer.getDeclaredMethods()) {
            boolean isFace = outer == LawnGardeners.class && Modifier.isPublic(method.getModifiers());
            Check.due(method.getName() + " in " + outer, isFace, () -> names.contains(method.getName()));
        }
        for (Class<?> inside : outer.getDeclaredClasses()) {
            Check.due(inside + " is static", true, () -> Modifier.isStatic(inside.getModifiers()));
            Check.due(inside + " is public", false, () -> Modifier.isPublic(inside.getModifiers()));
            checkInside(inside, names);
        }
    }

    private static String shown(Method method) {
        StringBuilder text = new StringBuilder(method.getReturnType() + " " + method.getName() + "(");
        for (Class<?> type : method.getParameterTypes()) {
            text.append(text.charAt(text.length() - 1) == '(' ? "" : ",").append(type);
        }
        return text.append(")").toString();
    }
}
