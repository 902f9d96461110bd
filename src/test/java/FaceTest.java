import java.lang.reflect.Constructor;
import java.lang.reflect.Field;
import java.lang.reflect.Member;
import java.lang.reflect.Method;
import java.lang.reflect.Modifier;
import java.util.Arrays;
import java.util.TreeSet;

/** The public face: all that the document lists, its throws clauses in their order, and nothing more. */
public final class FaceTest {
    private static final String[] DUE = {
        "int append(int int int int int) IllegalStateException",
        "int shorten(int) IllegalArgumentException",
        "int load() IllegalArgumentException",
        "boolean hasError()",
        "int errorOffset() NoSuchElementException",
        "int night()",
        "int lightOf(int) IllegalArgumentException",
        "int tideOf(int) IllegalArgumentException",
        "int cloudOf(int) IllegalArgumentException",
        "int visibleLight(int) IllegalArgumentException",
        "int glareLimit()",
        "int gloomLimit()",
        "int tideLimit()",
        "int cloudCount()",
        "boolean isJustified(int int) IllegalArgumentException",
        "int nextJustified(int) IllegalArgumentException NoSuchElementException",
        "int justifiedNights(int) IllegalArgumentException",
        "int likeliestSort()",
        "int complaintCount()",
        "int personOf(int) IndexOutOfBoundsException",
        "int sortOf(int) IndexOutOfBoundsException",
        "int angerOf(int) IndexOutOfBoundsException",
        "int filedIn(int) IndexOutOfBoundsException",
        "boolean isWaiting(int) IndexOutOfBoundsException",
        "boolean isAnswered(int) IndexOutOfBoundsException",
        "boolean isDismissed(int) IndexOutOfBoundsException",
        "boolean isGivenUp(int) IndexOutOfBoundsException",
        "int closedIn(int) IndexOutOfBoundsException NoSuchElementException",
        "int clerkOf(int) IndexOutOfBoundsException NoSuchElementException",
        "int waitingOf(int int) IllegalArgumentException NoSuchElementException",
        "int waitingCount()",
        "int answeredCount()",
        "int dismissedCount()",
        "int givenUpCount()",
        "int oldest() NoSuchElementException",
        "int angriest() NoSuchElementException",
        "int complaintsOf(int) IllegalArgumentException",
        "int clerkCount()",
        "int darkestClerk() NoSuchElementException",
        "int skillOf(int) IndexOutOfBoundsException",
        "int oilOf(int) IndexOutOfBoundsException",
        "int answeredBy(int) IndexOutOfBoundsException",
        "int oilCost()",
        "int oilUsed()",
        "int comfort()",
        "double meanWait()",
        "float answeredShare()",
        "int answersTonight()",
        "int nightsToClose(int) IndexOutOfBoundsException IllegalStateException",
        "boolean willBeAnswered(int) IndexOutOfBoundsException IllegalStateException",
        "int fileComplaint(int int int) IllegalArgumentException IllegalStateException",
        "int giveUp(int) IndexOutOfBoundsException IllegalStateException",
        "int addClerk(int int) IllegalArgumentException IllegalStateException",
        "int refill(int int) IndexOutOfBoundsException IllegalArgumentException",
        "int setCloud(int int) IndexOutOfBoundsException IllegalArgumentException",
        "int setGlareLimit(int) IllegalArgumentException",
        "int setGloomLimit(int) IllegalArgumentException",
        "int setTideLimit(int) IllegalArgumentException",
        "int endNights(int) IllegalArgumentException IllegalStateException",
        "int undo() IllegalStateException",
        "int saveSnapshot(int) IndexOutOfBoundsException",
        "int restoreSnapshot(int) IndexOutOfBoundsException NoSuchElementException",
        "int writeComplaints(int) IllegalArgumentException",
        "int writtenByte(int) IndexOutOfBoundsException",
    };

    public static void main(String[] args) throws ReflectiveOperationException {
        Class<?> face = MoonComplaintWindow.class;
        Check.due("public and final", face.getModifiers(), Modifier.PUBLIC | Modifier.FINAL);
        TreeSet<String> names = new TreeSet<>();
        TreeSet<String> methods = new TreeSet<>();
        for (Method method : face.getDeclaredMethods()) {
            if (isSeen(method)) {
                methods.add(signature(method));
                names.add(method.getName());
                Check.due(method.getName() + " modifiers", method.getModifiers(), Modifier.PUBLIC);
            }
        }
        Check.due("methods", String.join("\n", methods), String.join("\n", new TreeSet<>(Arrays.asList(DUE))));
        for (Method method : face.getDeclaredMethods()) {
            Check.due("a private " + method.getName(), !isSeen(method) && names.contains(method.getName()), false);
        }
        TreeSet<String> fields = new TreeSet<>();
        for (Field field : face.getDeclaredFields()) {
            if (isSeen(field)) {
                fields.add(Modifier.toString(field.getModifiers()) + " " + field.getType() + " " + field.getName()
                        + " " + field.getInt(null));
            }
        }
        Check.due("constants", String.join(", ", fields), "public static final int FACE 3, public static final int GLARE 0,"
                + " public static final int GLOOM 1, public static final int TIDE 2");
        Constructor<?>[] constructors = face.getDeclaredConstructors();
        Check.due("constructors", constructors.length, 1);
        Check.due("constructor", constructors[0].getModifiers(), Modifier.PUBLIC);
        Check.due("its parameters", constructors[0].getParameterCount(), 0);
        Check.end("FaceTest");
    }

    private static boolean isSeen(Member member) {
        return !Modifier.isPrivate(member.getModifiers());
    }

    private static String signature(Method method) {
        StringBuilder text = new StringBuilder(method.getReturnType() + " " + method.getName() + "(");
        String gap = "";
        for (Class<?> type : method.getParameterTypes()) {
            text.append(gap).append(type);
            gap = " ";
        }
        text.append(')');
        for (Class<?> type : method.getExceptionTypes()) {
            text.append(' ').append(type.getSimpleName());
        }
        return text.toString();
    }
}
