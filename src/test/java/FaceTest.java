import java.lang.reflect.Constructor;
import java.lang.reflect.Field;
import java.lang.reflect.Method;
import java.lang.reflect.Modifier;
import java.nio.file.Files;
import java.nio.file.Paths;
import java.util.Set;
import java.util.TreeSet;

/** The face of the class is the document's and no more, and some rules of LANGUAGE.md. */
public final class FaceTest {
    private static final Check CHECK = new Check();

    private static final String INDEX = "IndexOutOfBoundsException";
    private static final String ARGUMENT = "IllegalArgumentException";
    private static final String STATE = "IllegalStateException";

    private static final String[] FACE = {
        "int ingredient(int,int,int,int,int) " + ARGUMENT + " " + STATE,
        "int mix(int,int) " + INDEX + " " + ARGUMENT + " " + STATE,
        "int put(int,int,int) " + INDEX + " " + ARGUMENT + " " + STATE,
        "boolean heat(int,int,int) " + INDEX + " " + ARGUMENT,
        "int run(int,int,int,int) " + INDEX + " " + ARGUMENT,
        "int wash(int) " + INDEX,
        "double harden(int,int) " + INDEX + " " + ARGUMENT + " " + STATE,
        "int store(int) " + ARGUMENT + " " + STATE,
        "int set(int,int) " + INDEX + " " + ARGUMENT,
        "int lay(int,int) " + INDEX + " " + STATE,
        "double door(int,int) " + INDEX + " " + ARGUMENT,
        "int pass(int) " + ARGUMENT,
        "int sell(int,int) " + INDEX + " " + ARGUMENT + " " + STATE,
        "int call(int) " + INDEX,
        "int ofMix(int,int) " + INDEX + " " + ARGUMENT,
        "double part(int,int) " + INDEX + " " + ARGUMENT,
        "double ice(int,int) " + INDEX + " " + ARGUMENT,
        "int bars(int,int,int,int) " + INDEX + " " + ARGUMENT,
        "int ofBatch(int,int) " + INDEX + " " + ARGUMENT,
        "double crystal(int) " + INDEX,
        "double temp(int) " + INDEX,
        "int many(int) " + ARGUMENT,
        "int day(int,boolean) " + ARGUMENT,
        "double wouldBe(int,int) " + INDEX + " " + ARGUMENT,
        "int wouldSpoil(int,int) " + INDEX + " " + ARGUMENT,
        "long digest()",
    };

    public static void main(String[] args) throws Exception {
        face();
        noOtherMembers();
        staticFields();
        words();
        CHECK.end();
    }

    private static void face() {
        Set<String> due = new TreeSet<>();
        for (String line : FACE) {
            due.add(line);
        }
        Set<String> got = new TreeSet<>();
        for (Method method : OverrunHouse.class.getDeclaredMethods()) {
            if (!Modifier.isPrivate(method.getModifiers())) {
                got.add(signature(method));
            }
        }
        CHECK.same("the face", String.join("\n", got), String.join("\n", due));
        CHECK.same("final", Modifier.isFinal(OverrunHouse.class.getModifiers()), true);
        Constructor<?>[] constructors = OverrunHouse.class.getDeclaredConstructors();
        CHECK.same("constructors", constructors.length, 1);
        CHECK.same("its modifiers", constructors[0].getModifiers(), Modifier.PUBLIC);
        CHECK.same("its parameters", constructors[0].getParameterCount(), 0);
    }

    private static String signature(Method method) {
        StringBuilder text = new StringBuilder();
        text.append(method.getReturnType().getSimpleName()).append(' ').append(method.getName());
        text.append('(');
        Class<?>[] parameters = method.getParameterTypes();
        for (int i = 0; i < parameters.length; i++) {
            text.append(i == 0 ? "" : ",").append(parameters[i].getSimpleName());
        }
        text.append(')');
        for (Class<?> thrown : method.getExceptionTypes()) {
            text.append(' ').append(thrown.getSimpleName());
        }
        return text.toString();
    }

    private static void noOtherMembers() {
        Set<String> open = new TreeSet<>();
        for (Method method : OverrunHouse.class.getMethods()) {
            open.add(method.getName());
        }
        for (Method method : OverrunHouse.class.getDeclaredMethods()) {
            if (Modifier.isPrivate(method.getModifiers())) {
                CHECK.same("private " + method.getName(), open.contains(method.getName()), false);
            }
        }
        for (Field field : OverrunHouse.class.getDeclaredFields()) {
            CHECK.same("private field " + field.getName(),
                    Modifier.isPrivate(field.getModifiers()), true);
        }
        for (Class<?> inside : OverrunHouse.class.getDeclaredClasses()) {
            CHECK.same("static " + inside.getName(), Modifier.isStatic(inside.getModifiers()), true);
            for (Method method : inside.getDeclaredMethods()) {
                CHECK.same(inside.getName() + "." + method.getName(),
                        open.contains(method.getName()), false);
            }
        }
    }

    private static void staticFields() {
        for (Field field : OverrunHouse.class.getDeclaredFields()) {
            if (Modifier.isStatic(field.getModifiers())) {
                CHECK.same("final " + field.getName(), Modifier.isFinal(field.getModifiers()), true);
                CHECK.same("type of " + field.getName(), field.getType().getSimpleName(), "int");
            }
        }
    }

    private static void words() throws Exception {
        String source = new String(Files.readAllBytes(Paths.get("src/main/java/OverrunHouse.java")));
        String[] ruledOut = {"import ", "package ", "->", "::", "synchronized", "assert ",
            "finally", "try ", "catch ", "Exact(", "Math.", "System.", "Integer.", "static {"};
        for (String word : ruledOut) {
            CHECK.same("has '" + word + "'", source.contains(word), false);
        }
        for (String line : source.split("\n")) {
            CHECK.same("short line: " + line, line.length() <= 100, true);
        }
    }
}
