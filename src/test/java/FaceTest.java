import java.lang.reflect.Constructor;
import java.lang.reflect.Field;
import java.lang.reflect.Method;
import java.lang.reflect.Modifier;
import java.util.Set;
import java.util.TreeSet;

/** The public face: just the document's members, and no private method with the name of a public one. */
public final class FaceTest {
    public static void main(String[] args) throws ReflectiveOperationException {
        Due due = new Due();
        Class<?> face = PropertyShrink.class;
        due.is("public and final", Modifier.isPublic(face.getModifiers()) && Modifier.isFinal(face.getModifiers()), true);
        Set<String> want = Set.of(
            "int generator(int,int,int)", "int property(int,int,int)", "int check(int,int,long,int)",
            "int shrink(int)", "boolean least()", "int replay(int,int)", "boolean put(int)", "int choice(int)",
            "int size(int)", "int number(int)", "int all(int,int)", "long sum()");
        Set<String> got = new TreeSet<>();
        Set<String> names = new TreeSet<>();
        for (Method method : face.getDeclaredMethods()) {
            if (!Modifier.isPrivate(method.getModifiers()) && !method.isSynthetic()) {
                String text = method.toString();
                due.is(text + " is no static", Modifier.isStatic(method.getModifiers()), false);
                got.add(text.replace("public ", "").replace("PropertyShrink.", ""));
                names.add(method.getName());
            }
        }
        due.is("methods " + got, got.equals(want), true);
        for (Method method : face.getDeclaredMethods()) {
            if (Modifier.isPrivate(method.getModifiers())) {
                due.is("name of " + method, names.contains(method.getName()), false);
            }
        }
        for (Field field : face.getDeclaredFields()) {
            due.is(field.toString(), Modifier.isPrivate(field.getModifiers()), !field.getName().equals("NONE"));
        }
        due.is("NONE", face.getField("NONE").getInt(null), -1);
        due.is("constructors", face.getDeclaredConstructors().length, 1);
        for (Constructor<?> constructor : face.getDeclaredConstructors()) {
            due.is(constructor.toString(), constructor.getParameterCount(), 0);
            due.is(constructor + " is public", Modifier.isPublic(constructor.getModifiers()), true);
        }
        due.end();
    }
}
