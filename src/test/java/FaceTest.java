import java.io.IOException;
import java.lang.reflect.Constructor;
import java.lang.reflect.Field;
import java.lang.reflect.Method;
import java.lang.reflect.Modifier;
import java.nio.file.Files;
import java.nio.file.Path;
import java.util.Set;
import java.util.TreeSet;
import java.util.regex.Pattern;

/** The public face of the document, and the rules of the language that a test can see. */
public final class FaceTest {
    private static final String[] FACE = {
        "int field(int,int,int) NoSuchElementException IllegalArgumentException IllegalStateException UnsupportedOperationException",
        "int value(int,int) NoSuchElementException IllegalArgumentException IllegalStateException UnsupportedOperationException",
        "int option(int,int) NoSuchElementException IllegalArgumentException UnsupportedOperationException",
        "int set(int,int,int) NoSuchElementException IllegalArgumentException",
        "void bounds(int,long,long) NoSuchElementException IllegalArgumentException",
        "int formula(int,int,int,int) NoSuchElementException IllegalArgumentException",
        "int calculate()",
        "int failed(int) IndexOutOfBoundsException",
        "int fails(int,boolean) NoSuchElementException IllegalArgumentException",
        "int shown(int,int) NoSuchElementException",
        "int size(int) NoSuchElementException IllegalArgumentException",
        "int validate(int) NoSuchElementException IllegalArgumentException",
        "int appearance(int) NoSuchElementException IllegalArgumentException",
        "int mark(int,int) IndexOutOfBoundsException",
        "int flatten(int) NoSuchElementException IllegalArgumentException IllegalStateException UnsupportedOperationException",
        "int page(int,int) IndexOutOfBoundsException",
        "int write()",
        "int at(int) ArrayIndexOutOfBoundsException",
        "int read(int) IllegalArgumentException UnsupportedOperationException",
        "int lock(int,boolean) NoSuchElementException IllegalArgumentException",
    };

    public static void main(String[] args) throws IOException {
        theFaceIsTheDocuments();
        nothingElseIsSeen();
        noPrivateMethodBearsAPublicName();
        staticFieldsAreConstants();
        wordsThatAreRuledOut(Files.readString(Path.of("src/main/java/FormFields.java")));
        Check.end();
    }

    private static String line(Method m) {
        StringBuilder line = new StringBuilder();
        line.append(m.getReturnType().getSimpleName()).append(' ').append(m.getName()).append('(');
        String between = "";
        for (Class<?> type : m.getParameterTypes()) {
            line.append(between).append(type.getSimpleName());
            between = ",";
        }
        line.append(')');
        for (Class<?> type : m.getExceptionTypes()) {
            line.append(' ').append(type.getSimpleName());
        }
        return line.toString();
    }

    private static void theFaceIsTheDocuments() {
        Set<String> got = new TreeSet<>();
        for (Method m : FormFields.class.getDeclaredMethods()) {
            if (Modifier.isPublic(m.getModifiers())) {
                got.add(line(m));
            }
        }
        Check.same("the face", new TreeSet<>(Set.of(FACE)).toString(), got.toString());
        Check.same("final", "true", "" + Modifier.isFinal(FormFields.class.getModifiers()));
        Constructor<?>[] constructors = FormFields.class.getDeclaredConstructors();
        Check.same("constructors", "1", "" + constructors.length);
        Check.same("public constructor", "true", "" + Modifier.isPublic(constructors[0].getModifiers()));
        Check.same("its parameters", "0", "" + constructors[0].getParameterCount());
    }

    private static void nothingElseIsSeen() {
        for (Field f : FormFields.class.getDeclaredFields()) {
            Check.same("field " + f.getName() + " is private", "true", "" + Modifier.isPrivate(f.getModifiers()));
        }
        for (Method m : FormFields.class.getDeclaredMethods()) {
            boolean hidden = Modifier.isPrivate(m.getModifiers()) || Modifier.isPublic(m.getModifiers());
            Check.same("method " + m.getName() + " is private or of the face", "true", "" + hidden);
        }
        int classes = 1;
        for (Class<?> c : FormFields.class.getDeclaredClasses()) {
            classes++;
            Check.same("class " + c.getName() + " is static", "true", "" + Modifier.isStatic(c.getModifiers()));
            Check.same("class " + c.getName() + " is not public", "false", "" + Modifier.isPublic(c.getModifiers()));
        }
        Check.same("at most twelve classes", "true", "" + (classes <= 12));
    }

    private static void noPrivateMethodBearsAPublicName() {
        Set<String> names = new TreeSet<>();
        for (String line : FACE) {
            names.add(line.substring(line.indexOf(' ') + 1, line.indexOf('(')));
        }
        for (Class<?> c : FormFields.class.getDeclaredClasses()) {
            for (Method m : c.getDeclaredMethods()) {
                Check.same("method " + m.getName() + " bears a public name", "false", "" + names.contains(m.getName()));
            }
        }
    }

    private static void staticFieldsAreConstants() {
        for (Field f : FormFields.class.getDeclaredFields()) {
            if (Modifier.isStatic(f.getModifiers())) {
                boolean constant = Modifier.isFinal(f.getModifiers()) && (f.getType() == int.class || f.getType() == long.class);
                Check.same("constant " + f.getName(), "true", "" + constant);
            }
        }
    }

    private static void wordsThatAreRuledOut(String source) {
        String[] words = {"catch", "try", "finally", "synchronized", "assert", "null", "package", "Random", "System", "hashCode", "toString", "instanceof", "double", "float"};
        for (String word : words) {
            Check.same("the program holds " + word, "false", "" + Pattern.compile("\\b" + word + "\\b").matcher(source).find());
        }
        for (String sign : new String[] {"->", "::", "Exact("}) {
            Check.same("the program holds " + sign, "false", "" + source.contains(sign));
        }
        Check.same("imports", "1", "" + (source.split("\nimport |^import ").length - 1));
    }
}
