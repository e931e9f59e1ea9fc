import java.lang.reflect.Constructor;
import java.lang.reflect.Field;
import java.lang.reflect.Method;
import java.lang.reflect.Modifier;
import java.util.HashSet;
import java.util.Set;
import java.util.TreeSet;

/** The members that the class shows are those of the document's face, and no others. */
public final class FaceTest {
    /** Behind each method stand the exceptions that it declares: I, A and S for Index.., IllegalA.. and IllegalS.. */
    private static final String FACE = "append(int)int/AS bestPeak(int,int,int)int/IA clear()int "
            + "deliver(int,int,int)int/IAS delivery(int,int)long/IA drop(int,int,int,int)int/IAS "
            + "event(int,int)int/A execute()int/S findLot(int,int,int)int/A "
            + "fire(int,int,int,int)int/IAS firstError()int glaze(int,int)int/IA "
            + "grade(int)int/AS largest(int,int)int/IA lot(int,int)int/IA pack()int pile(int,int)int/IA "
            + "position(int,int,int)int/IA possible(int,int,int,int,int)int/IA replace(int)int/IS "
            + "setBoxSize(int)int/AS setGlaze(int,int,int)int/IA setPosition(int,int,int,int)int/IA "
            + "setQuality(int,int,int)int/IA setSharpness(int)int/A shadeAt(int,int,int,int)int/IA "
            + "takeBack(int,int,int)int/IAS total(int)long/A undo()int/S wouldHide(int)int/A";

    public static void main(String[] args) {
        Class<?> face = TileFactory.class;
        Checks.same("the class is public and final", face.getModifiers(), Modifier.PUBLIC | Modifier.FINAL);
        Set<String> shown = new TreeSet<>();
        Set<String> names = new HashSet<>();
        for (Method method : face.getDeclaredMethods()) {
            if (!Modifier.isPrivate(method.getModifiers()) && !method.isSynthetic()) {
                shown.add(written(method));
                names.add(method.getName());
                Checks.same(method + " is public", method.getModifiers(), Modifier.PUBLIC);
            }
        }
        Checks.same("methods", String.join(" ", shown), FACE);
        checkFields(face);
        Constructor<?>[] constructors = face.getDeclaredConstructors();
        Checks.same("constructors", constructors.length, 1);
        Checks.same("public constructor", constructors[0].getModifiers(), Modifier.PUBLIC);
        checkPrivateNames(face, names);
        for (Class<?> inside : face.getDeclaredClasses()) {
            Checks.same(inside + " is static", inside.getModifiers() & Modifier.STATIC, Modifier.STATIC);
            Checks.same(inside + " is not shown", inside.getModifiers() & (Modifier.PUBLIC | Modifier.PROTECTED), 0);
            checkPrivateNames(inside, names);
        }
        Checks.finish();
    }

    private static String written(Method method) {
        StringBuilder types = new StringBuilder();
        for (Class<?> type : method.getParameterTypes()) {
            types.append(types.length() > 0 ? "," : "").append(type.getName());
        }
        StringBuilder exceptions = new StringBuilder();
        for (Class<?> exception : method.getExceptionTypes()) {
            exceptions.append(exceptions.length() > 0 ? "" : "/").append(letterOf(exception));
        }
        return method.getName() + "(" + types + ")" + method.getReturnType().getName() + exceptions;
    }

    private static char letterOf(Class<?> exception) {
        if (exception == IndexOutOfBoundsException.class) {
            return 'I';
        }
        if (exception == IllegalArgumentException.class) {
            return 'A';
        }
        return exception == IllegalStateException.class ? 'S' : '?';
    }

    private static void checkFields(Class<?> face) {
        for (Field field : face.getDeclaredFields()) {
            boolean isShown = !Modifier.isPrivate(field.getModifiers());
            Checks.same(field + " is shown", isShown ? 1 : 0, field.getName().equals("NONE") ? 1 : 0);
        }
    }

    private static void checkPrivateNames(Class<?> type, Set<String> names) {
        for (Method method : type.getDeclaredMethods()) {
            boolean isFace = Modifier.isPublic(method.getModifiers()) && type == TileFactory.class;
            if (!isFace && names.contains(method.getName())) {
                Checks.fail(method + " bears the name of a method of the face");
            }
        }
    }
}
