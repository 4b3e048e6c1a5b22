import java.io.IOException;
import java.lang.reflect.Constructor;
import java.lang.reflect.Field;
import java.lang.reflect.Method;
import java.lang.reflect.Modifier;
import java.nio.file.Files;
import java.nio.file.Path;
import java.util.Set;
import java.util.TreeSet;

/** The face is the document's and no more, and the source keeps to what LANGUAGE.md leaves. */
public final class FaceTest {
    private static final String[] FACE = {
        "public boolean clear(int)", "public boolean ice(int,int)", "public boolean sound(int,int,int,int,int,int)",
        "public int booth(int,boolean,int)", "public int cell(int,int,int)", "public int count(int)",
        "public int customs(int)", "public int fault(int)", "public int feed(int,int,int,int,int)",
        "public int hour(int)", "public int lay()", "public int look(int,int)", "public int proof()",
        "public int set(int,int,int)", "public int soon()"};
    private static final String[] FORBIDDEN = {
        "->", "::", "catch", "finally", "synchronized", "assert", "volatile", "native", "System.out", "System.nano",
        "System.current", "Exact(", "record ", "getClass", "hashCode", "ordinal(", "name(", ".format("};

    public static void main(String[] args) throws IOException {
        theMembers();
        theNames();
        theFields();
        theSource();
        theLengths();
        Check.end();
    }

    private static void theMembers() {
        Set<String> seen = new TreeSet<>();
        for (Method method : IceFair.class.getDeclaredMethods()) {
            if (!Modifier.isPrivate(method.getModifiers()) && !method.isSynthetic()) {
                seen.add(Modifier.toString(method.getModifiers()) + " " + method.getReturnType() + " "
                    + method.getName() + parameters(method.getParameterTypes()));
            }
        }
        Check.dueText("the methods", seen.toString(), new TreeSet<>(Set.of(FACE)).toString());
        for (Field field : IceFair.class.getDeclaredFields()) {
            boolean none = field.getName().equals("NONE");
            Check.dueText("field " + field.getName(), Modifier.toString(field.getModifiers()).split(" ")[0],
                none ? "public" : "private");
        }
        Constructor<?>[] made = IceFair.class.getDeclaredConstructors();
        Check.due("constructors", made.length, 1);
        Check.dueText("the constructor", made[0].toString(), "public IceFair()");
        Check.due("the class is final", Modifier.isFinal(IceFair.class.getModifiers()), true);
        for (Class<?> inside : IceFair.class.getDeclaredClasses()) {
            Check.due(inside + " is static", Modifier.isStatic(inside.getModifiers()), true);
            Check.due(inside + " is public", Modifier.isPublic(inside.getModifiers()), false);
        }
    }

    private static String parameters(Class<?>[] types) {
        StringBuilder all = new StringBuilder("(");
        for (Class<?> type : types) {
            all.append(all.length() > 1 ? "," : "").append(type);
        }
        return all.append(")").toString();
    }

    private static void theNames() {
        String publicNames = String.join(" ", FACE);
        for (Class<?> inside : IceFair.class.getDeclaredClasses()) {
            for (Method method : inside.getDeclaredMethods()) {
                Check.due(inside + " has a method of the face's name: " + method.getName(),
                    publicNames.contains(" " + method.getName() + "("), false);
                Check.due("parameters of " + method, method.getParameterCount() <= 7, true);
            }
        }
        Check.due("classes", IceFair.class.getDeclaredClasses().length <= 11, true);
    }

    private static void theFields() {
        dueFields(IceFair.class);
        for (Class<?> inside : IceFair.class.getDeclaredClasses()) {
            dueFields(inside);
        }
    }

    private static void dueFields(Class<?> type) {
        int held = 0;
        for (Field field : type.getDeclaredFields()) {
            if (Modifier.isStatic(field.getModifiers())) {
                Check.due(field + " is final", Modifier.isFinal(field.getModifiers()), true);
            } else {
                held++;
            }
        }
        Check.due("fields of " + type, held <= 20, true);
    }

    /** A method's first and last line stand as far in as one another, so they can be told from the lines between. */
    private static void theLengths() throws IOException {
        String[] lines = Files.readString(Path.of("src/main/java/IceFair.java")).split("\n");
        int methods = 0;
        for (int i = 0; i < lines.length; i++) {
            if (!lines[i].matches(" {4,8}[A-Za-z].*\\).*\\{")) {
                continue;
            }
            String end = " ".repeat(lines[i].length() - lines[i].stripLeading().length()) + "}";
            int last = i + 1;
            while (last < lines.length && !lines[last].equals(end)) {
                last++;
            }
            methods++;
            Check.due("lines of " + lines[i].strip(), last < lines.length && last - i < 60, true);
        }
        Check.due("methods found", methods > 80, true);
    }

    private static void theSource() throws IOException {
        String source = Files.readString(Path.of("src/main/java/IceFair.java"));
        for (String word : FORBIDDEN) {
            Check.due("the source has " + word, source.contains(word), false);
        }
        for (int i = 0; i < source.length(); i++) {
            char sign = source.charAt(i);
            if (sign != '\n' && (sign < 32 || sign > 126)) {
                Check.due("the sign at " + i, sign, ' ');
            }
        }
        int imports = 0;
        for (String line : source.split("\n")) {
            imports += line.startsWith("import ") ? 1 : 0;
        }
        Check.due("imports", imports, 1);
        Check.due("the one import", source.startsWith("import java.util.NoSuchElementException;\n"), true);
    }
}
