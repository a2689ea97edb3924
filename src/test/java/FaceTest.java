import java.lang.reflect.Constructor;
import java.lang.reflect.Field;
import java.lang.reflect.Method;
import java.lang.reflect.Modifier;
import java.util.Arrays;
import java.util.Set;
import java.util.TreeSet;

/** The public face: what the document writes out, and nothing beside it. */
public final class FaceTest {
    private static final String[] FACE = {
        "boolean close(int)", "boolean peek(int,int,int,int)", "boolean reads(int,int,int,int)", "boolean write(char)",
        "int count(int)", "int fault()", "int layer(int,int,boolean)", "int line()", "int load(int,int)",
        "int module(int,int)", "int modules(int)", "int provider(int,int)"};

    public static void main(String[] args) {
        Set<String> visible = new TreeSet<>();
        Set<String> publicNames = new TreeSet<>();
        for (Method method : LayerDesk.class.getDeclaredMethods()) {
            if (!Modifier.isPrivate(method.getModifiers()) && !method.isSynthetic()) {
                visible.add(textOf(method));
                publicNames.add(method.getName());
            }
        }
        due("the methods " + visible, visible.equals(new TreeSet<>(Arrays.asList(FACE))));
        for (Method method : LayerDesk.class.getDeclaredMethods()) {
            boolean hidden = Modifier.isPrivate(method.getModifiers());
            due("private method " + method.getName(), !hidden || !publicNames.contains(method.getName()));
        }
        for (Field field : LayerDesk.class.getDeclaredFields()) {
            due("field " + field.getName(), Modifier.isPrivate(field.getModifiers()));
        }
        Constructor<?>[] constructors = LayerDesk.class.getDeclaredConstructors();
        due("one constructor", constructors.length == 1 && Modifier.isPublic(constructors[0].getModifiers())
                && constructors[0].getParameterCount() == 0);
        int modifiers = LayerDesk.class.getModifiers();
        due("public final class", Modifier.isPublic(modifiers) && Modifier.isFinal(modifiers));
        for (Class<?> inside : LayerDesk.class.getDeclaredClasses()) {
            due("class " + inside.getName(), Modifier.isStatic(inside.getModifiers())
                    && !Modifier.isPublic(inside.getModifiers()) && !Modifier.isProtected(inside.getModifiers()));
        }
        Check.end();
    }

    private static void due(String what, boolean holds) {
        Check.due(what, holds ? 1 : 0, 1);
    }

    private static String textOf(Method method) {
        StringBuilder text = new StringBuilder();
        text.append(method.getReturnType().getName()).append(' ').append(method.getName()).append('(');
        for (Class<?> parameter : method.getParameterTypes()) {
            if (text.charAt(text.length() - 1) != '(') {
                text.append(',');
            }
            text.append(parameter.getName());
        }
        return text.append(')').toString();
    }
}
