import java.lang.reflect.Constructor;
import java.lang.reflect.Field;
import java.lang.reflect.Method;
import java.lang.reflect.Modifier;
import java.util.ArrayList;
import java.util.Arrays;
import java.util.Collections;
import java.util.HashSet;
import java.util.List;
import java.util.Set;

/** The public face is the document's, and nothing else is seen from outside. */
public final class FaceTest {
    private static final String[] FACE = {
        "int addPerson() throws IllegalStateException",
        "int addChild(int) throws IndexOutOfBoundsException IllegalStateException",
        "int marry(int int) throws IndexOutOfBoundsException IllegalArgumentException IllegalStateException",
        "int setStage(int int int int) throws IndexOutOfBoundsException IllegalArgumentException",
        "int die(int) throws IndexOutOfBoundsException IllegalStateException",
        "int release(int int) throws IndexOutOfBoundsException IllegalStateException",
        "int pass(int) throws IllegalArgumentException",
        "int people() throws",
        "int living() throws",
        "boolean isAlive(int) throws IndexOutOfBoundsException",
        "int parentOf(int) throws IndexOutOfBoundsException",
        "int marriedTo(int) throws IndexOutOfBoundsException",
        "int degreeOf(int int) throws IndexOutOfBoundsException",
        "int kinOf(int int) throws IndexOutOfBoundsException",
        "int stageColour(int int) throws IndexOutOfBoundsException",
        "int stageDays(int int) throws IndexOutOfBoundsException",
        "int day() throws",
        "int colourOf(int) throws IndexOutOfBoundsException",
        "int colourIn(int int) throws IndexOutOfBoundsException IllegalArgumentException",
        "int mourningsOf(int) throws IndexOutOfBoundsException",
        "int daysLeftFor(int int) throws IndexOutOfBoundsException",
        "int daysLeft(int) throws IndexOutOfBoundsException",
        "int daysUntilLighter(int) throws IndexOutOfBoundsException",
        "int daysIn(int int) throws IndexOutOfBoundsException",
        "int wearing(int) throws IndexOutOfBoundsException",
        "int strictest() throws",
        "int longestMourner() throws",
        "int daysWorn() throws",
        "int wouldMourn(int) throws IndexOutOfBoundsException IllegalStateException",
        "int wouldWear(int int) throws IndexOutOfBoundsException IllegalArgumentException IllegalStateException",
        "int heaviestLoss() throws",
        "double meanDaysLeft() throws",
        "long digest() throws",
    };

    public static void main(String[] args) {
        Class<?> ribbons = MourningRibbons.class;
        Check.due("the class is public and final",
                ribbons.getModifiers(), Modifier.PUBLIC | Modifier.FINAL);
        Check.due("constructors", ribbons.getDeclaredConstructors().length, 1);
        for (Constructor<?> constructor : ribbons.getDeclaredConstructors()) {
            Check.same("the constructor", constructor.toString(), "public MourningRibbons()");
        }
        methodsAreTheFace(ribbons);
        fieldsAreHidden(ribbons);
        classesInsideAreHidden(ribbons);
        Check.end("FaceTest");
    }

    private static void methodsAreTheFace(Class<?> ribbons) {
        List<String> seen = new ArrayList<>();
        Set<String> publicNames = new HashSet<>();
        for (Method method : ribbons.getDeclaredMethods()) {
            if (Modifier.isPublic(method.getModifiers())) {
                seen.add(told(method));
                publicNames.add(method.getName());
            }
        }
        for (Method method : ribbons.getDeclaredMethods()) {
            boolean isPublic = Modifier.isPublic(method.getModifiers());
            boolean isPrivate = Modifier.isPrivate(method.getModifiers());
            Check.due(method + " is public or private", isPublic || isPrivate ? 1 : 0, 1);
            Check.due(method + " does not bear a public one's name",
                    isPrivate && publicNames.contains(method.getName()) ? 1 : 0, 0);
        }
        List<String> face = new ArrayList<>(Arrays.asList(FACE));
        Collections.sort(face);
        Collections.sort(seen);
        Check.same("the public methods", seen.toString(), face.toString());
    }

    private static String told(Method method) {
        StringBuilder text = new StringBuilder();
        text.append(method.getReturnType().getSimpleName()).append(' ').append(method.getName());
        text.append('(').append(names(method.getParameterTypes())).append(") throws");
        for (Class<?> exception : method.getExceptionTypes()) {
            text.append(' ').append(exception.getSimpleName());
        }
        return text.toString();
    }

    private static String names(Class<?>[] types) {
        List<String> names = new ArrayList<>();
        for (Class<?> type : types) {
            names.add(type.getSimpleName());
        }
        return String.join(" ", names);
    }

    private static void fieldsAreHidden(Class<?> ribbons) {
        for (Field field : ribbons.getDeclaredFields()) {
            int modifiers = field.getModifiers();
            Check.due(field + " is private", Modifier.isPrivate(modifiers) ? 1 : 0, 1);
            Check.due(field + " is final if it is static",
                    !Modifier.isStatic(modifiers) || Modifier.isFinal(modifiers) ? 1 : 0, 1);
        }
    }

    private static void classesInsideAreHidden(Class<?> ribbons) {
        for (Class<?> inside : ribbons.getDeclaredClasses()) {
            int modifiers = inside.getModifiers();
            Check.due(inside + " is static and not seen from outside",
                    Modifier.isStatic(modifiers) && !Modifier.isPublic(modifiers)
                            && !Modifier.isProtected(modifiers) ? 1 : 0, 1);
        }
    }
}
