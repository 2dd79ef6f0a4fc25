import java.lang.reflect.Constructor;
import java.lang.reflect.Field;
import java.lang.reflect.Method;
import java.lang.reflect.Modifier;
import java.util.TreeSet;

/** The public face is the document's, and nothing else can be seen of the class. */
public final class FaceTest {
    private static final String FACE = "int act(int,int,int);int back();int body(int);int buys(int);int change(int);"
        + "int count(int);int customer(int,int);int customers(int,int,int);int day(int);int drawn(int,int,int);"
        + "int enough(int);int evening();int feed(int);int friends(int);int image();int judge(int);int keep(int,int);"
        + "int law();int led(int,int);int mend(int,int,int);int nephew(int);int of(int,int);int order(int,int);"
        + "int place(int);int price(int);int put(int,int,long);int redo();int riseFor();int row(int,int,int);"
        + "int shift(int,int,int,int,int);int swap(int);int taken(int,int);int thing(int);int trace(int);"
        + "int undo();int visit();int whose(int);long element(int,int);";

    public static void main(String[] args) {
        constants();
        methods();
        hiddenMembers();
        Check.end("FaceTest");
    }

    private static void constants() {
        Check.due("BAD", LeftByLast.BAD, -1);
        Check.due("NOT", LeftByLast.NOT, -2);
        Check.due("FULL", LeftByLast.FULL, -3);
        Check.due("STATE", LeftByLast.STATE, -5);
        Check.due("VOID", LeftByLast.VOID, -2000000000);
        Check.due("final", Modifier.isFinal(LeftByLast.class.getModifiers()) ? 1 : 0, 1);
    }

    private static void methods() {
        TreeSet<String> seen = new TreeSet<>();
        for (Method m : LeftByLast.class.getDeclaredMethods()) {
            if (!Modifier.isPublic(m.getModifiers())) continue;
            StringBuilder parameters = new StringBuilder();
            for (Class<?> type : m.getParameterTypes()) {
                parameters.append(parameters.length() == 0 ? "" : ",").append(type.getName());
            }
            seen.add(m.getReturnType().getName() + " " + m.getName() + "(" + parameters + ")");
        }
        StringBuilder all = new StringBuilder();
        for (String one : seen) all.append(one).append(';');
        Check.due("public methods", all.toString(), FACE);
    }

    private static void hiddenMembers() {
        int constants = 0;
        for (Field f : LeftByLast.class.getDeclaredFields()) {
            if (Modifier.isPublic(f.getModifiers())) constants++;
            else Check.due("private " + f.getName(), Modifier.isPrivate(f.getModifiers()) ? 1 : 0, 1);
        }
        Check.due("public constants", constants, 5);
        for (Method m : LeftByLast.class.getDeclaredMethods()) {
            if (Modifier.isPublic(m.getModifiers()) || m.isSynthetic()) continue;
            Check.due("private " + m.getName(), Modifier.isPrivate(m.getModifiers()) ? 1 : 0, 1);
            Check.due("name of its own: " + m.getName(), FACE.contains(" " + m.getName() + "(") ? 1 : 0, 0);
        }
        Constructor<?>[] made = LeftByLast.class.getDeclaredConstructors();
        Check.due("constructors", made.length, 1);
        Check.due("parameters", made[0].getParameterCount(), 0);
        Check.due("public constructor", Modifier.isPublic(made[0].getModifiers()) ? 1 : 0, 1);
    }
}
