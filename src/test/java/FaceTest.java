import java.io.IOException;
import java.lang.reflect.Constructor;
import java.lang.reflect.Executable;
import java.lang.reflect.Field;
import java.lang.reflect.Method;
import java.lang.reflect.Modifier;
import java.nio.file.Files;
import java.nio.file.Path;
import java.util.Arrays;
import java.util.Set;
import java.util.TreeSet;
import java.util.regex.Matcher;
import java.util.regex.Pattern;

/** The public face to the letter, and those rules of LANGUAGE.md that can be read off the file. */
public final class FaceTest {
    private static final String[] FACE = {
        "public EchoLine()",
        "public int say(int,int,int) throws IndexOutOfBoundsException,IllegalArgumentException,IllegalStateException",
        "public int pass(int) throws IllegalArgumentException,IllegalStateException",
        "public int wall(int,int) throws IndexOutOfBoundsException,IllegalArgumentException",
        "public int set(int,int) throws IndexOutOfBoundsException,IllegalArgumentException",
        "public int append(int) throws IllegalArgumentException,IllegalStateException",
        "public int clearBuffer()",
        "public int firstError()",
        "public int talk() throws IllegalArgumentException",
        "public int undo() throws IllegalStateException",
        "public int keep()",
        "public int restore() throws IllegalStateException",
        "public int said(int,int) throws IllegalArgumentException",
        "public int comes(int,int) throws IndexOutOfBoundsException,IllegalArgumentException",
        "public int heard(int,int,int) throws IndexOutOfBoundsException,IllegalArgumentException",
        "public int speaker(int,int) throws IndexOutOfBoundsException,IllegalArgumentException",
        "public int message(int,int,int) throws IndexOutOfBoundsException,IllegalArgumentException",
        "public int count(int) throws IllegalArgumentException",
        "public int whyNot(int,int) throws IndexOutOfBoundsException,IllegalArgumentException",
        "public int ifSilent(int) throws IndexOutOfBoundsException",
        "public int heardIn(int,int) throws IndexOutOfBoundsException,IllegalArgumentException",
        "public int bestSeat()",
        "public double heardShare()",
        "public long digest()",
        "public static final int NONE",
    };

    /** What LANGUAGE.md leaves out, as it would stand in the file. */
    private static final String[] FORBIDDEN = {
        "->", "::", "\\bimport\\b", "\\bpackage\\b", "\\bsynchronized\\b", "\\bassert\\b", "\\bfinally\\b",
        "\\bcatch\\b", "\\bDouble\\b", "\\bFloat\\b", "\\bSystem\\.(?!arraycopy\\b)", "\\w+Exact\\b",
        "\\bMath\\.(?!(abs|min|max|floorDiv|floorMod)\\b)", "\\bstatic\\s*\\{", "\\bwhile\\s*\\(true\\)",
        "\\bequals\\b", "\\bhashCode\\b", "\\btoString\\b", "\\bString\\.", "\\bObject\\b",
        "[^\\x00-\\x7f]", "\\bprotected\\b", "\" \\+", "\\+ \"",
    };

    private static int wrong = 0;

    public static void main(String[] args) throws IOException {
        int modifiers = EchoLine.class.getModifiers();
        must(Modifier.isPublic(modifiers) && Modifier.isFinal(modifiers), "the class is not public and final");
        faceIsAsTold();
        for (Class<?> inside : EchoLine.class.getDeclaredClasses()) {
            must(Modifier.isStatic(inside.getModifiers()), inside + " is not static");
            must(!Modifier.isPublic(inside.getModifiers()), inside + " is public");
            must(inside.getDeclaredFields().length <= 40, inside + " has too many fields");
            staticFieldsAreFinal(inside);
        }
        staticFieldsAreFinal(EchoLine.class);
        String code = codeOf(Files.readString(Path.of("src/main/java/EchoLine.java")));
        for (String pattern : FORBIDDEN) {
            Matcher matcher = Pattern.compile(pattern).matcher(code);
            must(!matcher.find(), "the file has what matches " + pattern);
        }
        System.out.println("FaceTest: " + wrong + " wrong");
        if (wrong != 0) {
            System.exit(1);
        }
    }

    private static void faceIsAsTold() {
        Set<String> names = new TreeSet<>();
        Set<String> hidden = new TreeSet<>();
        Set<String> found = new TreeSet<>();
        for (Constructor<?> maker : EchoLine.class.getDeclaredConstructors()) {
            found.add(Modifier.toString(maker.getModifiers()) + " EchoLine" + restOf(maker));
        }
        for (Method method : EchoLine.class.getDeclaredMethods()) {
            if (Modifier.isPrivate(method.getModifiers())) {
                hidden.add(method.getName());
            } else {
                names.add(method.getName());
                found.add(Modifier.toString(method.getModifiers()) + " " + method.getReturnType()
                        + " " + method.getName() + restOf(method));
            }
        }
        for (Field field : EchoLine.class.getDeclaredFields()) {
            if (!Modifier.isPrivate(field.getModifiers())) {
                found.add(Modifier.toString(field.getModifiers()) + " " + field.getType() + " " + field.getName());
            }
        }
        for (Class<?> inside : EchoLine.class.getDeclaredClasses()) {
            Arrays.stream(inside.getDeclaredMethods()).forEach(method -> hidden.add(method.getName()));
        }
        Set<String> due = new TreeSet<>(Arrays.asList(FACE));
        must(found.equals(due), "the face is " + found);
        hidden.retainAll(names);
        must(hidden.isEmpty(), "names of the face stand again inside: " + hidden);
    }

    private static String restOf(Executable member) {
        StringBuilder rest = new StringBuilder("(");
        for (Class<?> type : member.getParameterTypes()) {
            rest.append(rest.length() > 1 ? "," : "").append(type.getSimpleName());
        }
        rest.append(")");
        String between = " throws ";
        for (Class<?> type : member.getExceptionTypes()) {
            rest.append(between).append(type.getSimpleName());
            between = ",";
        }
        return rest.toString();
    }

    private static void staticFieldsAreFinal(Class<?> holder) {
        for (Field field : holder.getDeclaredFields()) {
            int modifiers = field.getModifiers();
            must(!Modifier.isStatic(modifiers) || Modifier.isFinal(modifiers), field + " is static, not final");
        }
    }

    /** The file without its comments and without the words in its texts. */
    private static String codeOf(String file) {
        String code = file.replaceAll("(?s)/\\*.*?\\*/", " ").replaceAll("//[^\n]*", " ");
        return code.replaceAll("\"[^\"\n]*\"", "\"\"");
    }

    private static void must(boolean holds, String otherwise) {
        if (!holds) {
            wrong++;
            System.out.println(otherwise);
        }
    }
}
