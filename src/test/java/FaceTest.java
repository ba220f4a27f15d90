import java.io.IOException;
import java.lang.reflect.Constructor;
import java.lang.reflect.Executable;
import java.lang.reflect.Field;
import java.lang.reflect.Method;
import java.lang.reflect.Modifier;
import java.nio.file.Files;
import java.nio.file.Path;
import java.util.ArrayList;
import java.util.Arrays;
import java.util.List;
import java.util.Set;
import java.util.TreeSet;
import java.util.regex.Matcher;
import java.util.regex.Pattern;

/** The public face to the letter, and the order of the calls under their headings. */
public final class FaceTest {
    private static final String[] FACE = {
        "public EchoLine()",
        "public int say(int,int,int) throws IndexOutOfBoundsException,IllegalArgumentException,IllegalStateException",
        "public int pass(int) throws IllegalArgumentException,IllegalStateException",
        "public int wall(int,int) throws IndexOutOfBoundsException,IllegalArgumentException",
        "public int set(int,int) throws IndexOutOfBoundsException,IllegalArgumentException",
        "public int append(int) throws IllegalArgumentException,IllegalStateException",
        "public int clearBuffer()",
        "public int firstError()",
        "public int talk() throws IllegalArgumentException",
        "public int undo() throws IllegalStateException",
        "public int keep()",
        "public int restore() throws IllegalStateException",
        "public int said(int,int) throws IllegalArgumentException",
        "public int comes(int,int) throws IndexOutOfBoundsException,IllegalArgumentException",
        "public int heard(int,int,int) throws IndexOutOfBoundsException,IllegalArgumentException",
        "public int speaker(int,int) throws IndexOutOfBoundsException,IllegalArgumentException",
        "public int message(int,int,int) throws IndexOutOfBoundsException,IllegalArgumentException",
        "public int count(int) throws IllegalArgumentException",
        "public int whyNot(int,int) throws IndexOutOfBoundsException,IllegalArgumentException",
        "public int ifSilent(int) throws IndexOutOfBoundsException",
        "public int heardIn(int,int) throws IndexOutOfBoundsException,IllegalArgumentException",
        "public int bestSeat()",
        "public double heardShare()",
        "public long digest()",
        "public static final int NONE",
    };

    /** The headings of the interface, and the calls that stand behind each. */
    private static final List<String> ORDER = List.of(
        "---- speaking", "say", "pass", "wall", "set",
        "---- texts", "append", "clearBuffer", "firstError", "talk",
        "---- undo, the snapshot", "undo", "keep", "restore",
        "---- looks; nothing is changed", "said", "comes", "heard", "speaker", "message", "count", "whyNot",
        "---- what would be; nothing is changed", "ifSilent", "heardIn", "bestSeat", "heardShare", "digest");
    private static final Pattern HEADING_OR_CALL = Pattern.compile("// (----[^\n]*)|public (?:int|long|double) (\\w+)\\(");

    private static int wrong = 0;

    public static void main(String[] args) throws IOException {
        int modifiers = EchoLine.class.getModifiers();
        must(Modifier.isPublic(modifiers) && Modifier.isFinal(modifiers), "the class is not public and final");
        faceIsAsTold();
        for (Class<?> inside : EchoLine.class.getDeclaredClasses()) {
            must(!Modifier.isPublic(inside.getModifiers()), inside + " is public");
        }
        orderIsAsTold(Files.readString(Path.of("src/main/java/EchoLine.java")));
        System.out.println("FaceTest: " + wrong + " wrong");
        if (wrong != 0) {
            System.exit(1);
        }
    }

    private static void faceIsAsTold() {
        Set<String> names = new TreeSet<>();
        Set<String> hidden = new TreeSet<>();
        Set<String> found = new TreeSet<>();
        for (Constructor<?> maker : EchoLine.class.getDeclaredConstructors()) {
            found.add(Modifier.toString(maker.getModifiers()) + " EchoLine" + restOf(maker));
        }
        for (Method method : EchoLine.class.getDeclaredMethods()) {
            if (Modifier.isPrivate(method.getModifiers())) {
                hidden.add(method.getName());
            } else {
                names.add(method.getName());
                found.add(Modifier.toString(method.getModifiers()) + " " + method.getReturnType()
                        + " " + method.getName() + restOf(method));
            }
        }
        for (Field field : EchoLine.class.getDeclaredFields()) {
            if (!Modifier.isPrivate(field.getModifiers())) {
                found.add(Modifier.toString(field.getModifiers()) + " " + field.getType() + " " + field.getName());
            }
        }
        for (Class<?> inside : EchoLine.class.getDeclaredClasses()) {
            Arrays.stream(inside.getDeclaredMethods()).forEach(method -> hidden.add(method.getName()));
        }
        Set<String> due = new TreeSet<>(Arrays.asList(FACE));
        must(found.equals(due), "the face is " + found);
        hidden.retainAll(names);
        must(hidden.isEmpty(), "names of the face stand again inside: " + hidden);
    }

    private static String restOf(Executable member) {
        StringBuilder rest = new StringBuilder("(");
        for (Class<?> type : member.getParameterTypes()) {
            rest.append(rest.length() > 1 ? "," : "").append(type.getSimpleName());
        }
        rest.append(")");
        String between = " throws ";
        for (Class<?> type : member.getExceptionTypes()) {
            rest.append(between).append(type.getSimpleName());
            between = ",";
        }
        return rest.toString();
    }

    private static void orderIsAsTold(String file) {
        List<String> found = new ArrayList<>();
        Matcher matcher = HEADING_OR_CALL.matcher(file);
        while (matcher.find()) {
            found.add(matcher.group(matcher.group(1) != null ? 1 : 2));
        }
        must(found.equals(ORDER), "the headings and calls are " + found);
    }

    private static void must(boolean holds, String otherwise) {
        if (!holds) {
            wrong++;
            System.out.println(otherwise);
        }
    }
}
