import java.lang.reflect.Constructor;
import java.lang.reflect.Field;
import java.lang.reflect.InvocationTargetException;
import java.lang.reflect.Method;

/**
 * Sentences of the document that no run of calls can reach, as the class keeps them from happening: these are tried
 * on the classes inside. If names inside change, this test changes with them.
 */
public final class InsideTest {
    public static void main(String[] args) throws ReflectiveOperationException {
        bothAreEmpty();
        approvedButNotWellTagged();
        approvedWithoutItsTags();
        notTheFile();
        Due.close();
    }

    /** 'The likeness is 100 if both are empty': a source has one code at least. */
    private static void bothAreEmpty() throws ReflectiveOperationException {
        Object memory = made("Memory");
        Class<?> rowType = type("Row");
        Constructor<?> constructor = rowType.getDeclaredConstructor(int.class);
        constructor.setAccessible(true);
        Object left = constructor.newInstance(80);
        Object right = constructor.newInstance(80);
        Method likeness = method(memory, "likenessOf", rowType, rowType);
        Due.is("23 '100 if both are empty'", likeness.invoke(memory, left, right), 100);
        method(right, "put", int.class).invoke(right, 5);
        Due.is("23 '0 at least', one is empty", likeness.invoke(memory, left, right), 0);
        Due.is("23 '0 at least', the other one is empty", likeness.invoke(memory, right, left), 0);
        method(left, "put", int.class).invoke(left, 5);
        Due.is("23 neither is empty", likeness.invoke(memory, left, right), 100);
    }

    private static void approvedButNotWellTagged() throws ReflectiveOperationException {
        Tongueworks x = Due.bench(100, 1, 200);
        Due.target(x, 0, 200, 100);
        Due.is("36 a draft that is not well tagged", x.isSound(), true);
        set(segment(x, 0), "state", 'a');
        Due.is("36 'each approved segment is well tagged'", x.isSound(), false);
    }

    private static void approvedWithoutItsTags() throws ReflectiveOperationException {
        Tongueworks x = Due.bench(5, 0, 100, 1, 200);
        Due.target(x, 1, 101, 201);
        Due.is("36 a draft without the tags of its source", x.isSound(), true);
        set(segment(x, 1), "state", 'a');
        Due.is("36 'and has the tags of its source'", x.isSound(), false);
        x.copy(0, 1);
        x.approve(0, 1);
        Due.is("36 approved as it should be", x.isSound(), true);
    }

    private static void notTheFile() throws ReflectiveOperationException {
        Tongueworks x = Due.bench(1, 0, 2, 0);
        Object book = get(x, "book");
        set(book, "nowCount", 1);
        Due.is("36 'sources and skeleton make up the file', one is missing", x.isSound(), false);
        set(book, "nowCount", 2);
        Due.is("36 none is missing", x.isSound(), true);
        Object source = get(segment(x, 0), "source");
        set(source, "size", 1);
        Due.is("36 'sources and skeleton make up the file', a code is missing", x.isSound(), false);
    }

    private static Class<?> type(String name) {
        for (Class<?> type : Tongueworks.class.getDeclaredClasses()) {
            if (type.getSimpleName().equals(name)) {
                return type;
            }
        }
        throw new IllegalArgumentException("no class " + name);
    }

    private static Object made(String name) throws ReflectiveOperationException {
        Constructor<?> constructor = type(name).getDeclaredConstructor();
        constructor.setAccessible(true);
        return constructor.newInstance();
    }

    private static Method method(Object of, String name, Class<?>... types) throws NoSuchMethodException {
        Method method = of.getClass().getDeclaredMethod(name, types);
        method.setAccessible(true);
        return method;
    }

    private static Field field(Object of, String name) throws NoSuchFieldException {
        Field field = of.getClass().getDeclaredField(name);
        field.setAccessible(true);
        return field;
    }

    private static Object get(Object of, String name) throws ReflectiveOperationException {
        return field(of, name).get(of);
    }

    private static void set(Object of, String name, Object value) throws ReflectiveOperationException {
        field(of, name).set(of, value);
    }

    private static Object segment(Tongueworks x, int index) throws ReflectiveOperationException {
        Object book = get(x, "book");
        try {
            return method(book, "segmentAt", int.class).invoke(book, index);
        } catch (InvocationTargetException e) {
            throw new IllegalStateException(e);
        }
    }
}
