import java.io.IOException;
import java.lang.reflect.Constructor;
import java.lang.reflect.Executable;
import java.lang.reflect.Field;
import java.lang.reflect.Method;
import java.lang.reflect.Modifier;
import java.nio.file.Files;
import java.nio.file.Path;
import java.util.ArrayList;
import java.util.Collections;
import java.util.List;

/** Compares the class's face with the code block of the document, and the source with some rules of LANGUAGE.md. */
public final class FaceTest {
    private static final Check CHECK = new Check();

    /** Words that no program within LANGUAGE.md has. */
    private static final String[] FORBIDDEN = {
        "package ", "->", "::", "finally", "catch", "synchronized", "assert", "System.out", "System.err", "Exact",
        "HashMap", "Random", "Thread", "java.io", "java.time", "nanoTime", "currentTimeMillis", ".equals(", "hashCode",
        "toString", "String.format", ".stream", "volatile", "transient", "native "
    };

    private static final String CONSTANT_TYPES = "int|long|boolean|char|java.lang.String|(int|long|char|byte)\\[\\]";
    private static final String FIELD_TYPES = "(int|long|boolean|char|java.lang.String(Builder)?|LeafMint\\$\\w+)"
            + "(\\[\\])?|(int|long)\\[\\]\\[\\]";

    public static void main(String[] args) throws IOException {
        faceIsThatOfTheDocument();
        nothingElseIsVisible();
        noPrivateMethodHasAPublicName();
        sourceKeepsToTheLanguage();
        fieldsKeepToTheLanguage();
        sizesKeepToTheLanguage();
        CHECK.end("FaceTest");
    }

    private static void faceIsThatOfTheDocument() throws IOException {
        List<String> due = new ArrayList<>();
        boolean inFace = false;
        for (String line : Files.readAllLines(Path.of("..", "shared", "DOC.md"))) {
            inFace |= line.startsWith("public final class LeafMint {");
            if (inFace && line.equals("}")) {
                break;
            }
            if (inFace && line.startsWith("    public ")) {
                due.add(withoutNames(line.trim().replace(";", "")));
            }
        }
        List<String> got = new ArrayList<>();
        for (Constructor<?> constructor : LeafMint.class.getDeclaredConstructors()) {
            got.add("public LeafMint" + rest(constructor));
        }
        for (Method method : LeafMint.class.getDeclaredMethods()) {
            if (Modifier.isPublic(method.getModifiers())) {
                got.add("public " + method.getReturnType().getName() + " " + method.getName() + rest(method));
            }
        }
        Collections.sort(due);
        Collections.sort(got);
        CHECK.equal("face", String.join("\n", got), String.join("\n", due));
        CHECK.equal("the face's size", got.size(), 49);
    }

    private static String withoutNames(String line) {
        int open = line.indexOf('(');
        int close = line.indexOf(')');
        StringBuilder types = new StringBuilder();
        for (String parameter : line.substring(open + 1, close).split(", ")) {
            if (!parameter.isEmpty()) {
                types.append(types.length() == 0 ? "" : ", ").append(parameter.split(" ")[0]);
            }
        }
        return line.substring(0, open + 1) + types + line.substring(close);
    }

    private static String rest(Executable executable) {
        StringBuilder text = new StringBuilder("(");
        for (Class<?> type : executable.getParameterTypes()) {
            text.append(text.length() == 1 ? "" : ", ").append(type.getName());
        }
        text.append(")");
        String before = " throws ";
        for (Class<?> type : executable.getExceptionTypes()) {
            text.append(before).append(type.getSimpleName());
            before = ", ";
        }
        return text.toString();
    }

    private static void nothingElseIsVisible() {
        CHECK.holds("public and final", LeafMint.class.getModifiers() == (Modifier.PUBLIC | Modifier.FINAL));
        for (Field field : LeafMint.class.getDeclaredFields()) {
            CHECK.holds("private: " + field, Modifier.isPrivate(field.getModifiers()));
        }
        for (Method method : LeafMint.class.getDeclaredMethods()) {
            int modifiers = method.getModifiers();
            CHECK.holds("public or private: " + method, Modifier.isPublic(modifiers) || Modifier.isPrivate(modifiers));
        }
        for (Class<?> inside : LeafMint.class.getDeclaredClasses()) {
            int modifiers = inside.getModifiers();
            CHECK.holds("static, not public: " + inside, Modifier.isStatic(modifiers) && !Modifier.isPublic(modifiers));
        }
    }

    private static List<Class<?>> allClasses() {
        List<Class<?>> classes = new ArrayList<>(List.of(LeafMint.class.getDeclaredClasses()));
        classes.add(LeafMint.class);
        return classes;
    }

    private static void noPrivateMethodHasAPublicName() {
        List<String> names = new ArrayList<>();
        for (Method method : LeafMint.class.getDeclaredMethods()) {
            if (Modifier.isPublic(method.getModifiers())) {
                names.add(method.getName());
            }
        }
        for (Class<?> inside : allClasses()) {
            for (Method method : inside.getDeclaredMethods()) {
                if (!Modifier.isPublic(method.getModifiers())) {
                    CHECK.holds("own name: " + method, !names.contains(method.getName()));
                }
            }
        }
    }

    private static void sourceKeepsToTheLanguage() throws IOException {
        String source = Files.readString(Path.of("src", "main", "java", "LeafMint.java"));
        for (String word : FORBIDDEN) {
            CHECK.holds("no '" + word + "' in the source", !source.contains(word));
        }
        for (int i = 0; i < source.length(); i++) {
            char sign = source.charAt(i);
            if (sign > 126 || sign < 32 && sign != '\n') {
                CHECK.holds("plain sign at " + i, false);
            }
        }
    }

    private static void fieldsKeepToTheLanguage() {
        for (Class<?> inside : allClasses()) {
            for (Field field : inside.getDeclaredFields()) {
                String type = field.getType().getTypeName();
                boolean isStatic = Modifier.isStatic(field.getModifiers());
                String allowed = isStatic ? CONSTANT_TYPES : FIELD_TYPES;
                CHECK.holds("a type of rules 3 and 5: " + field, type.matches(allowed));
                CHECK.holds("final: " + field, !isStatic || Modifier.isFinal(field.getModifiers()));
            }
        }
    }

    /** Rule 11; the length of a method is left to the reader. */
    private static void sizesKeepToTheLanguage() {
        CHECK.holds("12 classes", allClasses().size() <= 12);
        for (Class<?> inside : allClasses()) {
            int fields = 0;
            for (Field field : inside.getDeclaredFields()) {
                fields += Modifier.isStatic(field.getModifiers()) ? 0 : 1;
            }
            CHECK.holds("20 fields in " + inside, fields <= 20);
            for (Method method : inside.getDeclaredMethods()) {
                CHECK.holds("seven parameters of " + method, method.getParameterCount() <= 7);
            }
        }
    }
}
