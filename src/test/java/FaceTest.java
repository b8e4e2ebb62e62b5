import java.lang.reflect.Constructor;
import java.lang.reflect.Field;
import java.lang.reflect.Method;
import java.lang.reflect.Modifier;
import java.nio.file.Files;
import java.nio.file.Path;
import java.util.Set;
import java.util.TreeSet;
import java.util.regex.Matcher;
import java.util.regex.Pattern;

/** Holds what others see of the class against "The public face" of the document, whose path is given. */
public final class FaceTest {
    public static void main(String[] args) throws Exception {
        Set<String> due = told(Files.readString(Path.of(args[0])));
        Set<String> is = seen();
        Set<String> lacking = new TreeSet<>(due);
        lacking.removeAll(is);
        Set<String> beyond = new TreeSet<>(is);
        beyond.removeAll(due);
        System.out.println("FaceTest: " + due.size() + " members told, lacking " + lacking + ", beyond " + beyond);
        boolean isFinal = Modifier.isFinal(RowGuard.class.getModifiers());
        if (due.size() != 46 || !lacking.isEmpty() || !beyond.isEmpty() || !isFinal) {
            System.exit(1);
        }
    }

    private static Set<String> told(String document) {
        String face = document.substring(document.indexOf("```java"));
        Set<String> all = new TreeSet<>();
        Matcher m = Pattern.compile("    public (.*);").matcher(face.substring(7, face.indexOf("```", 7)));
        while (m.find()) {
            all.add(m.group(1).replaceAll("int [a-z]+([,)])", "int$1"));
        }
        return all;
    }

    private static Set<String> seen() throws Exception {
        Set<String> all = new TreeSet<>();
        for (Field f : RowGuard.class.getDeclaredFields()) {
            if (!Modifier.isPrivate(f.getModifiers())) {
                all.add(kind(f.getModifiers()) + f.getType() + " " + f.getName() + " = " + f.getInt(null));
            }
        }
        for (Constructor<?> c : RowGuard.class.getDeclaredConstructors()) {
            if (!Modifier.isPrivate(c.getModifiers())) {
                all.add("RowGuard(" + list(c.getParameterTypes()) + ")");
            }
        }
        for (Method m : RowGuard.class.getDeclaredMethods()) {
            if (!Modifier.isPrivate(m.getModifiers())) {
                all.add(kind(m.getModifiers()) + m.getReturnType() + " " + m.getName() + "("
                    + list(m.getParameterTypes()) + ")");
            }
        }
        return all;
    }

    private static String kind(int modifiers) {
        String kind = Modifier.toString(modifiers & ~Modifier.PUBLIC);
        return (Modifier.isPublic(modifiers) ? "" : "not public ") + (kind.isEmpty() ? "" : kind + " ");
    }

    private static String list(Class<?>[] types) {
        StringBuilder all = new StringBuilder();
        for (Class<?> type : types) {
            all.append(all.length() == 0 ? "" : ", ").append(type);
        }
        return all.toString();
    }
}
