import java.lang.reflect.Constructor;
import java.lang.reflect.Field;
import java.lang.reflect.Method;
import java.lang.reflect.Modifier;
import java.util.TreeSet;

/** The public face: just the members that the document lists, and none that the package sees. */
public final class FaceTest {

    private static final String[] METHODS = {
        "public void setDue(int,int,int,int,int) IndexOutOfBoundsException IllegalArgumentException",
        "public void setOld(int,int,int,boolean,boolean,boolean) IndexOutOfBoundsException IllegalArgumentException",
        "public int give(int,int) IndexOutOfBoundsException",
        "public void open(int,int) IndexOutOfBoundsException",
        "public boolean shut(int) IndexOutOfBoundsException",
        "public boolean tell(int) IndexOutOfBoundsException IllegalStateException",
        "public int write(int,int) IndexOutOfBoundsException IllegalArgumentException IllegalStateException",
        "public int advance(int) IllegalArgumentException IllegalStateException",
        "public int run()",
        "public int turn(int) IndexOutOfBoundsException",
        "public int lose(int) IndexOutOfBoundsException",
        "public int day()",
        "public boolean isDue(int) IndexOutOfBoundsException",
        "public int nextDue(int) IndexOutOfBoundsException",
        "public int live(int) IndexOutOfBoundsException",
        "public int olds(int) IndexOutOfBoundsException",
        "public int lines(int,int) IndexOutOfBoundsException",
        "public int name(int,int) IndexOutOfBoundsException",
        "public boolean isSqueezed(int,int) IndexOutOfBoundsException",
        "public int thrown(int) IndexOutOfBoundsException",
        "public int holds(int) IndexOutOfBoundsException",
    };

    public static void main(String[] args) {
        Checks.due("the class", Modifier.toString(LogTurner.class.getModifiers()), "public final");
        TreeSet<String> want = new TreeSet<>();
        for (String method : METHODS) {
            want.add(method);
        }
        TreeSet<String> got = new TreeSet<>();
        for (Method method : LogTurner.class.getDeclaredMethods()) {
            if (!Modifier.isPrivate(method.getModifiers()) && !method.isSynthetic()) {
                got.add(told(method));
            }
        }
        Checks.due("the methods", got.toString(), want.toString());
        fields();
        constructors();
        privateNames();
        Checks.end();
    }

    private static String told(Method method) {
        StringBuilder text = new StringBuilder();
        text.append(Modifier.toString(method.getModifiers())).append(' ').append(method.getReturnType());
        text.append(' ').append(method.getName()).append('(');
        String between = "";
        for (Class<?> type : method.getParameterTypes()) {
            text.append(between).append(type);
            between = ",";
        }
        text.append(')');
        for (Class<?> type : method.getExceptionTypes()) {
            text.append(' ').append(type.getSimpleName());
        }
        return text.toString();
    }

    private static void fields() {
        for (Field field : LogTurner.class.getDeclaredFields()) {
            int modifiers = field.getModifiers();
            if (!Modifier.isPrivate(modifiers) && !field.isSynthetic()) {
                Checks.due("a field that is seen", field.getName(), "NONE");
                Checks.due("NONE", Modifier.toString(modifiers), "public static final");
            }
        }
        Checks.due("NONE", LogTurner.NONE, -1);
    }

    private static void constructors() {
        Constructor<?>[] all = LogTurner.class.getDeclaredConstructors();
        Checks.due("how many constructors", all.length, 1);
        Checks.due("its parameters", all[0].getParameterCount(), 0);
        Checks.due("its modifiers", Modifier.toString(all[0].getModifiers()), "public");
    }

    private static void privateNames() {
        for (Method method : LogTurner.class.getDeclaredMethods()) {
            for (Method other : LogTurner.class.getDeclaredMethods()) {
                if (Modifier.isPrivate(method.getModifiers()) && Modifier.isPublic(other.getModifiers())) {
                    Checks.due("a private method named " + method.getName(),
                            method.getName().equals(other.getName()), false);
                }
            }
        }
    }
}
