import java.lang.reflect.Constructor;
import java.lang.reflect.Field;
import java.lang.reflect.Member;
import java.lang.reflect.Method;
import java.lang.reflect.Modifier;
import java.util.Arrays;
import java.util.TreeSet;

/** The public face of the document, and no member beside it that is not private. */
public final class FaceTest {
    private static final String[] METHODS = {
        "public void SignReader.feed(int,int,int,int,int) throws java.lang.IllegalStateException",
        "public int SignReader.end(int) throws java.lang.IllegalArgumentException",
        "public int SignReader.change(int,int)",
        "public int SignReader.came(int)",
        "public int SignReader.read()",
        "public int SignReader.length()",
        "public int SignReader.sign(int)",
        "public int SignReader.way()",
        "public int SignReader.kinds(int)",
        "public int SignReader.run(int,int)",
        "public int SignReader.write(int)",
        "public int SignReader.add(int)",
    };

    public static void main(String[] args) {
        TreeSet<String> methods = new TreeSet<>();
        TreeSet<String> publicNames = new TreeSet<>();
        TreeSet<String> privateNames = new TreeSet<>();
        for (Method m : SignReader.class.getDeclaredMethods()) {
            if (isPrivate(m)) {
                privateNames.add(m.getName());
            } else {
                methods.add(m.toString());
                publicNames.add(m.getName());
            }
        }
        Check.dueThat("methods " + methods, methods.equals(new TreeSet<>(Arrays.asList(METHODS))));
        privateNames.retainAll(publicNames);
        Check.dueThat("names twice " + privateNames, privateNames.isEmpty());
        fields();
        Constructor<?>[] made = SignReader.class.getDeclaredConstructors();
        Check.dueThat("constructor",
            made.length == 1 && made[0].toString().equals("public SignReader()"));
        Check.due("modifiers", SignReader.class.getModifiers(), Modifier.PUBLIC | Modifier.FINAL);
        Check.finish();
    }

    private static void fields() {
        TreeSet<String> seen = new TreeSet<>();
        for (Field f : SignReader.class.getDeclaredFields()) {
            if (!isPrivate(f)) {
                seen.add(f.toString());
            }
            if (Modifier.isStatic(f.getModifiers())) {
                Check.dueThat(f.getName() + " is final", Modifier.isFinal(f.getModifiers()));
            }
        }
        Check.dueThat("fields " + seen, seen.equals(
            new TreeSet<>(Arrays.asList("public static final int SignReader.NONE"))));
    }

    private static boolean isPrivate(Member m) {
        return Modifier.isPrivate(m.getModifiers());
    }
}
