import java.lang.reflect.Constructor;
import java.lang.reflect.Field;
import java.lang.reflect.Method;
import java.lang.reflect.Modifier;
import java.util.Arrays;
import java.util.Set;
import java.util.TreeSet;

/** The public face, and promise 1: a new object. */
public final class FaceTest {
    private static final String[] METHODS = {
        "int feed(int,long) throws IllegalArgumentException",
        "int wipe()",
        "int load()",
        "int fault()",
        "int place()",
        "void reset()",
        "void input(int,boolean) throws IndexOutOfBoundsException",
        "int scan(int) throws IllegalArgumentException",
        "int run(int,int) throws IllegalArgumentException",
        "boolean output(int) throws IndexOutOfBoundsException",
        "int bits(int) throws IllegalArgumentException",
        "int word(int) throws IndexOutOfBoundsException",
        "int block(int,int) throws IndexOutOfBoundsException,IllegalArgumentException",
        "int done()",
        "int fired()",
        "long time()",
    };

    public static void main(String[] args) {
        theFace();
        newObject();
        newObjectScans();
        objectsAreApart();
        Check.end("FaceTest");
    }

    private static void theFace() {
        Set<String> due = new TreeSet<>(Arrays.asList(METHODS));
        Set<String> got = new TreeSet<>();
        Set<String> names = new TreeSet<>();
        for (Method m : ScanChart.class.getDeclaredMethods()) {
            if (Modifier.isPublic(m.getModifiers())) {
                got.add(signature(m));
                names.add(m.getName());
            } else {
                Check.same("private " + m, Modifier.isPrivate(m.getModifiers()) || m.isSynthetic(), true);
            }
        }
        Check.same("methods are " + got, got.equals(due), true);
        for (Method m : ScanChart.class.getDeclaredMethods()) {
            Check.same("a name of a public method: " + m,
                    !Modifier.isPublic(m.getModifiers()) && names.contains(m.getName()), false);
        }
        Constructor<?>[] made = ScanChart.class.getDeclaredConstructors();
        Check.same("constructors", made.length, 1);
        Check.same("constructor's arguments", made[0].getParameterCount(), 0);
        Check.same("public constructor", Modifier.isPublic(made[0].getModifiers()), true);
        Check.same("public final class", ScanChart.class.getModifiers(), Modifier.PUBLIC | Modifier.FINAL);
        for (Field f : ScanChart.class.getDeclaredFields()) {
            boolean isNone = f.getName().equals("NONE") && f.getType() == int.class;
            Check.same("field " + f, Modifier.isPublic(f.getModifiers()), isNone);
            Check.same("field " + f, !Modifier.isPrivate(f.getModifiers()), isNone);
        }
        Check.same("NONE", ScanChart.NONE, -1);
    }

    private static String signature(Method m) {
        StringBuilder s = new StringBuilder();
        s.append(m.getReturnType().getSimpleName()).append(' ').append(m.getName()).append('(');
        for (int i = 0; i < m.getParameterCount(); i++) {
            s.append(i > 0 ? "," : "").append(m.getParameterTypes()[i].getSimpleName());
        }
        s.append(')');
        for (int i = 0; i < m.getExceptionTypes().length; i++) {
            s.append(i > 0 ? "," : " throws ").append(m.getExceptionTypes()[i].getSimpleName());
        }
        return s.toString();
    }

    private static void newObject() {
        ScanChart x = new ScanChart();
        Check.same("fault", x.fault(), 0);
        Check.same("place", x.place(), -1);
        Check.same("done", x.done(), 0);
        Check.same("fired", x.fired(), 0);
        Check.same("time", x.time(), 0);
        for (int kind = 0; kind <= 4; kind++) {
            Check.same("bits " + kind, x.bits(kind), kind == 3 ? 1 : 0);
        }
        for (int i = 0; i < 32; i++) {
            Check.same("word " + i, x.word(i), 0);
            Check.same("output " + i, x.output(i), false);
            Check.same("block " + i % 8 + " " + i / 8, x.block(i % 8, i / 8), 0);
        }
        Check.same("wipe of the empty text", x.wipe(), 0);
        Check.same("load of the empty text", x.load(), 0);
        Check.same("fault", x.fault(), 0);
        Check.same("place", x.place(), -1);
    }

    private static void newObjectScans() {
        ScanChart x = new ScanChart();
        x.input(3, true);
        Check.same("scan", x.scan(7), 0);
        Check.same("I", x.bits(0), 8);
        Check.same("X", x.bits(3), 1);
        Check.same("done", x.done(), 0);
        Check.same("fired", x.fired(), 0);
        Check.same("time", x.time(), 7);
        Check.same("run", x.run(100, 1), 100);
        Check.same("time", x.time(), 107);
    }

    private static void objectsAreApart() {
        ScanChart x = Check.loaded("LD 1; ST W0; ST Q0;");
        ScanChart y = new ScanChart();
        x.scan(1);
        Check.same("another object's word", y.word(0), 0);
        Check.same("another object's text", y.wipe(), 0);
        Check.same("another object's scan", y.scan(1), 0);
        Check.same("another object's done", y.done(), 0);
    }
}
