import java.lang.reflect.Constructor;
import java.lang.reflect.Field;
import java.lang.reflect.Method;
import java.lang.reflect.Modifier;
import java.util.Arrays;
import java.util.TreeSet;

/** The public face: just what the document has, and nothing else that is seen from outside. */
public final class FaceTest {
    private static final Due DUE = new Due("FaceTest");
    private static final String[] METHODS = {
        "int block(int,int)", "int check(int,int)", "int count(int)", "int end(int)",
        "int feed(int,int,int,int,int)", "int filter(int,int)", "int octet(int)", "int open(int)", "int out(int)",
        "int pack(int)", "int pass()", "int property(int,int)", "int rule()", "int state()", "int step(int,int)",
        "int turn(int,int,boolean)"};

    public static void main(String[] args) throws IllegalAccessException {
        TreeSet<String> methods = new TreeSet<>();
        for (Method m : LzmaChains.class.getDeclaredMethods()) {
            if (!Modifier.isPrivate(m.getModifiers()) && !m.isSynthetic()) {
                methods.add(m.getReturnType() + " " + m.getName() + list(m.getParameterTypes()));
                DUE.same(m.getName() + " is public", Modifier.isPublic(m.getModifiers()) ? 1 : 0, 1);
            }
        }
        DUE.same("methods", methods.toString(), Arrays.toString(METHODS));
        TreeSet<String> fields = new TreeSet<>();
        for (Field f : LzmaChains.class.getDeclaredFields()) {
            if (!Modifier.isPrivate(f.getModifiers())) {
                fields.add(Modifier.toString(f.getModifiers()) + " " + f.getType() + " " + f.getName() + " " + f.getInt(null));
            }
        }
        DUE.same("constants", fields.toString(),
            "[public static final int BAD -1, public static final int FULL -3, public static final int NONE -2]");
        Constructor<?>[] made = LzmaChains.class.getDeclaredConstructors();
        DUE.same("constructors", made.length, 1);
        DUE.same("the constructor", list(made[0].getParameterTypes()), "(int)");
        DUE.same("the class", Modifier.toString(LzmaChains.class.getModifiers()), "public final");
        for (Class<?> inside : LzmaChains.class.getDeclaredClasses()) {
            DUE.same(inside.getName(), Modifier.isPublic(inside.getModifiers()) ? 1 : 0, 0);
        }
        DUE.finish();
    }

    private static String list(Class<?>[] types) {
        StringBuilder s = new StringBuilder("(");
        for (int i = 0; i < types.length; i++) {
            s.append(i == 0 ? "" : ",").append(types[i].getName());
        }
        return s.append(")").toString();
    }
}
