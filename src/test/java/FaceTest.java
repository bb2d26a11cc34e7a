import java.lang.reflect.Constructor;
import java.lang.reflect.Field;
import java.lang.reflect.Method;
import java.lang.reflect.Modifier;
import java.util.Arrays;
import java.util.TreeSet;

/** The class has the document's face, and nothing else that is not private. */
public final class FaceTest {
    private static final String[] FACE = {
        "public int begin(int,int) throws IllegalArgumentException",
        "public int mark(int,int,int,int,int) throws IllegalArgumentException",
        "public int setCarrier(int) throws IllegalArgumentException",
        "public int set(int,int) throws IllegalArgumentException",
        "public int addPunch(int,int,int,int) throws IllegalArgumentException,IllegalStateException",
        "public int addBend(int,int,int) throws IllegalArgumentException,IllegalStateException",
        "public int dropOperation(int) throws IndexOutOfBoundsException",
        "public int setStation(int,int) throws IndexOutOfBoundsException,IllegalArgumentException",
        "public int usePlan() throws IllegalStateException",
        "public int setPilot(int,boolean) throws IllegalArgumentException",
        "public int stroke()",
        "public int emptyPress()",
        "public long cellSet(int) throws IllegalArgumentException",
        "public int operation(int,int) throws IndexOutOfBoundsException,IllegalArgumentException",
        "public int station(int,int) throws IllegalArgumentException",
        "public int pitch(int,int) throws IllegalArgumentException",
        "public long left(int) throws IllegalArgumentException",
        "public int whole(int) throws IllegalArgumentException",
        "public int dieFault()",
        "public int planFault()",
        "public int planned(int) throws IndexOutOfBoundsException",
        "public int leastLimit()",
        "public int fitsTwice()",
        "public int scrap(boolean)",
        "public int strokesToGood()",
        "public int type(int) throws IllegalArgumentException,IllegalStateException",
        "public int clearCommands()",
        "public int runCommands()",
        "public int undo() throws IllegalStateException",
        "public long digest()",
    };

    public static void main(String[] args) {
        Check check = new Check("FaceTest");
        TreeSet<String> open = new TreeSet<>();
        TreeSet<String> closed = new TreeSet<>();
        TreeSet<String> names = new TreeSet<>();
        for (Method m : StripDie.class.getDeclaredMethods()) {
            if (m.isSynthetic()) {
                continue;
            }
            if (Modifier.isPrivate(m.getModifiers())) {
                closed.add(m.getName());
            } else {
                open.add(line(m));
                names.add(m.getName());
            }
        }
        check.compare("methods", new TreeSet<>(Arrays.asList(FACE)).toString(), open.toString());
        closed.retainAll(names);
        check.compare("private methods with a public name", "[]", closed.toString());

        TreeSet<String> fields = new TreeSet<>();
        for (Field f : StripDie.class.getDeclaredFields()) {
            if (!Modifier.isPrivate(f.getModifiers())) {
                fields.add(Modifier.toString(f.getModifiers()) + " " + f.getType() + " " + f.getName());
            }
            if (Modifier.isStatic(f.getModifiers())) {
                check.is("final " + f.getName(), 1, Modifier.isFinal(f.getModifiers()) ? 1 : 0);
            }
        }
        check.compare("fields", "[public static final int NONE]", fields.toString());
        check.is("NONE", -1, StripDie.NONE);

        Constructor<?>[] constructors = StripDie.class.getDeclaredConstructors();
        check.is("constructors", 1, constructors.length);
        check.compare("constructor", "public StripDie()", constructors[0].toString());
        check.compare("class", "public final", Modifier.toString(StripDie.class.getModifiers()));
        for (Class<?> c : StripDie.class.getDeclaredClasses()) {
            check.is("static " + c.getName(), 1, Modifier.isStatic(c.getModifiers()) ? 1 : 0);
        }
        check.end();
    }

    private static String line(Method m) {
        StringBuilder s = new StringBuilder();
        s.append(Modifier.toString(m.getModifiers())).append(' ').append(m.getReturnType());
        s.append(' ').append(m.getName()).append('(');
        for (int i = 0; i < m.getParameterCount(); i++) {
            s.append(i == 0 ? "" : ",").append(m.getParameterTypes()[i]);
        }
        s.append(')');
        for (int i = 0; i < m.getExceptionTypes().length; i++) {
            s.append(i == 0 ? " throws " : ",").append(m.getExceptionTypes()[i].getSimpleName());
        }
        return s.toString();
    }
}
