import java.lang.reflect.Constructor;
import java.lang.reflect.Field;
import java.lang.reflect.Method;
import java.lang.reflect.Modifier;
import java.util.Arrays;
import java.util.Set;
import java.util.TreeSet;
import java.util.stream.Collectors;

/** The public face: what the document writes out, and nothing beside it. */
public final class FaceTest {
    private static final String ARGUMENT = "IllegalArgumentException";
    private static final String STATE = "IllegalStateException";
    private static final String ELEMENT = "NoSuchElementException";
    private static final String[] FACE = {
        "boolean write(char)",
        "int line() throws " + ARGUMENT + "," + STATE,
        "int layer(int,int,boolean) throws " + ARGUMENT + "," + ELEMENT + "," + STATE,
        "int fault()",
        "boolean close(int)",
        "int count(int)",
        "int modules(int)",
        "int module(int,int)",
        "boolean reads(int,int,int,int)",
        "int load(int,int) throws " + ARGUMENT + "," + ELEMENT,
        "boolean peek(int,int,int,int) throws " + ARGUMENT + "," + ELEMENT,
        "int provider(int,int) throws " + ARGUMENT};

    public static void main(String[] args) {
        Set<String> visible = new TreeSet<>();
        Set<String> publicNames = new TreeSet<>();
        for (Method method : LayerDesk.class.getDeclaredMethods()) {
            if (!Modifier.isPrivate(method.getModifiers()) && !method.isSynthetic()) {
                visible.add(textOf(method));
                publicNames.add(method.getName());
            }
        }
        due("the methods " + visible, visible.equals(new TreeSet<>(Arrays.asList(FACE))));
        for (Method method : LayerDesk.class.getDeclaredMethods()) {
            boolean hidden = Modifier.isPrivate(method.getModifiers());
            due("private method " + method.getName(), !hidden || !publicNames.contains(method.getName()));
        }
        for (Field field : LayerDesk.class.getDeclaredFields()) {
            due("field " + field.getName(), Modifier.isPrivate(field.getModifiers()));
        }
        Constructor<?>[] constructors = LayerDesk.class.getDeclaredConstructors();
        due("one constructor", constructors.length == 1 && Modifier.isPublic(constructors[0].getModifiers())
                && constructors[0].getParameterCount() == 0);
        int modifiers = LayerDesk.class.getModifiers();
        due("public final class", Modifier.isPublic(modifiers) && Modifier.isFinal(modifiers));
        for (Class<?> inside : LayerDesk.class.getDeclaredClasses()) {
            due("class " + inside.getName(), Modifier.isStatic(inside.getModifiers())
                    && !Modifier.isPublic(inside.getModifiers()) && !Modifier.isProtected(inside.getModifiers()));
        }
        Check.end();
    }

    private static void due(String what, boolean holds) {
        Check.due(what, holds ? 1 : 0, 1);
    }

    private static String textOf(Method method) {
        String text = method.getReturnType().getName() + " " + method.getName()
                + "(" + namesOf(method.getParameterTypes()) + ")";
        String thrown = namesOf(method.getExceptionTypes());
        return thrown.isEmpty() ? text : text + " throws " + thrown;
    }

    private static String namesOf(Class<?>[] types) {
        return Arrays.stream(types).map(Class::getSimpleName).collect(Collectors.joining(","));
    }
}
