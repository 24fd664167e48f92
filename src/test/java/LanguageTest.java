import java.io.IOException;
import java.lang.reflect.Field;
import java.lang.reflect.Modifier;
import java.nio.file.Files;
import java.nio.file.Path;

/** Some rules of ../shared/LANGUAGE.md that can be seen from outside; run from the project's folder. */
public final class LanguageTest {
    private static final String[] RULED_OUT = {"import ", "package ", "catch", "finally", "synchronized", "assert ",
        "->", "::", "Exact", "System.", "Thread", "native ", "protected ", "hashCode", "toString", "equals(", "double ",
        "float ", "goto", "@"};

    public static void main(String[] args) throws IOException {
        words();
        classes();
        Check.end("LanguageTest");
    }

    private static void words() throws IOException {
        String source = Files.readString(Path.of("src/main/java/ScanChart.java"));
        for (String word : RULED_OUT) {
            Check.same("'" + word + "' in the program", source.contains(word), false);
        }
        for (int i = 0; i < source.length(); i++) {
            Check.same("a sign beyond 126 at " + i, source.charAt(i) > 126, false);
        }
    }

    private static void classes() {
        Class<?>[] inside = ScanChart.class.getDeclaredClasses();
        Check.same("at most some twelve classes", inside.length <= 11, true);
        statics(ScanChart.class);
        for (Class<?> c : inside) {
            int flags = c.getModifiers();
            Check.same(c + " is static", Modifier.isStatic(flags), true);
            Check.same(c + " is not public", Modifier.isPublic(flags) || Modifier.isProtected(flags), false);
            statics(c);
        }
    }

    private static void statics(Class<?> c) {
        int own = 0;
        for (Field f : c.getDeclaredFields()) {
            boolean isStatic = Modifier.isStatic(f.getModifiers());
            Check.same(f + " is final", isStatic && !Modifier.isFinal(f.getModifiers()), false);
            own += isStatic ? 0 : 1;
        }
        Check.same(c + " has some twenty fields at most", own <= 20, true);
    }
}
