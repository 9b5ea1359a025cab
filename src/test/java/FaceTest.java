import java.lang.reflect.Constructor;
import java.lang.reflect.Field;
import java.lang.reflect.Method;
import java.lang.reflect.Modifier;
import java.util.Arrays;
import java.util.Set;
import java.util.TreeSet;

/** The public face, its constants, and the rules of the language that can be seen from the classes. */
public final class FaceTest {
    private static final String[] FACE = {
        "int table(int,int,int)", "int row(int,int)", "int put(int,int,long)", "int miss(int,int)",
        "int has(int,int)", "long cell(int,int)", "int column(int,int,int)", "int trust(int,int)",
        "int keep(int,boolean)", "int about(int,int)", "int law(int,int,int,int,long,long)",
        "int among(int,int,int,int)", "int force(int,boolean)", "long most(int)", "int quarrels(int)",
        "int quarrel(int,int)", "int clean()", "int breaks(int)", "int mends()", "int mending(int)",
        "int price()", "int best()", "int blame(int)", "long sum(int,int,boolean)", "int mend()",
        "int settle(int)", "int ask()", "int part(int)", "int tell(int,int,long)",
        "int join(int,int,int,int)", "int stands()", "int often()", "int sure()", "int against()",
        "int count(int)",
    };
    private static final String CONSTANTS =
        "[BAD=-2, CAST=-13, FULL=-4, NONE=-9, NULL=-11, PLACE=-12, SIZE=-14, STATE=-3, UNKNOWN=-1]";

    public static void main(String[] args) throws Exception {
        Class<?> face = CleaningBench.class;
        same("the class", Modifier.toString(face.getModifiers()), "public final");
        same("methods", publicMethods(face).toString(), new TreeSet<>(Arrays.asList(FACE)).toString());
        same("constants", publicConstants(face).toString(), CONSTANTS);
        Constructor<?>[] makers = face.getDeclaredConstructors();
        Due.is("constructors", makers.length, 1);
        Due.is("its arguments", makers[0].getParameterCount(), 0);
        Due.is("it is public", makers[0].getModifiers(), Modifier.PUBLIC);
        noOtherMembers(face);
        classesInside(face);
        Due.end();
    }

    private static void same(String what, String got, String want) {
        if (!got.equals(want)) {
            System.out.println(got);
        }
        Due.is(what + ": as the document says", got.equals(want) ? 1 : 0, 1);
    }

    private static Set<String> publicMethods(Class<?> face) {
        Set<String> all = new TreeSet<>();
        for (Method method : face.getDeclaredMethods()) {
            if (Modifier.isPublic(method.getModifiers())) {
                StringBuilder text = new StringBuilder(method.getReturnType() + " " + method.getName() + "(");
                String comma = "";
                for (Class<?> type : method.getParameterTypes()) {
                    text.append(comma).append(type);
                    comma = ",";
                }
                all.add(text.append(")").toString());
            }
        }
        return all;
    }

    private static Set<String> publicConstants(Class<?> face) throws Exception {
        Set<String> all = new TreeSet<>();
        for (Field field : face.getDeclaredFields()) {
            if (Modifier.isPublic(field.getModifiers())) {
                same(field.getName(), Modifier.toString(field.getModifiers()), "public static final");
                all.add(field.getName() + "=" + field.getInt(null));
            }
        }
        return all;
    }

    private static void noOtherMembers(Class<?> face) {
        for (Method method : face.getDeclaredMethods()) {
            int flags = method.getModifiers();
            Due.is(method + " is public or private", Modifier.isPublic(flags) || Modifier.isPrivate(flags) ? 1 : 0, 1);
            if (Modifier.isPrivate(flags)) {
                notOfTheFace(face, method);
            }
        }
        for (Field field : face.getDeclaredFields()) {
            int flags = field.getModifiers();
            Due.is(field + " is public or private", Modifier.isPublic(flags) || Modifier.isPrivate(flags) ? 1 : 0, 1);
            Due.is(field + " static is final", Modifier.isStatic(flags) && !Modifier.isFinal(flags) ? 1 : 0, 0);
        }
    }

    private static void notOfTheFace(Class<?> face, Method method) {
        for (Method other : face.getDeclaredMethods()) {
            boolean same = Modifier.isPublic(other.getModifiers()) && other.getName().equals(method.getName());
            Due.is(method + " bears the name of a public one", same ? 1 : 0, 0);
        }
    }

    private static void classesInside(Class<?> face) {
        Due.is("some twelve classes at most", face.getDeclaredClasses().length < 12 ? 1 : 0, 1);
        for (Class<?> inside : face.getDeclaredClasses()) {
            Due.is(inside + " is static", Modifier.isStatic(inside.getModifiers()) ? 1 : 0, 1);
            Due.is(inside + " is not public", Modifier.isPublic(inside.getModifiers()) ? 1 : 0, 0);
            for (Method method : inside.getDeclaredMethods()) {
                Due.is(method + " has seven parameters at most", method.getParameterCount() <= 7 ? 1 : 0, 1);
                notOfTheFace(face, method);
            }
        }
    }
}
