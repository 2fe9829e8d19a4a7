import java.lang.reflect.Constructor;
import java.lang.reflect.Field;
import java.lang.reflect.Member;
import java.lang.reflect.Method;
import java.lang.reflect.Modifier;
import java.util.Set;
import java.util.TreeSet;

/** The class shows the document's face and nothing beside it. */
public final class FaceTest {
    private static final String ARGUMENT = "java.lang.IllegalArgumentException";
    private static final String STATE = "java.lang.IllegalStateException";
    private static final String INDEX = "java.lang.IndexOutOfBoundsException";

    private static final Set<String> FACE = Set.of(
        "public static final int CopyHeap.NONE",
        "public CopyHeap(int)",
        "public int CopyHeap.make(int,int,int) throws " + ARGUMENT + "," + STATE,
        "public int CopyHeap.number(int,int) throws " + ARGUMENT,
        "public boolean CopyHeap.copy(int,int) throws " + ARGUMENT,
        "public void CopyHeap.put(int,int,int) throws " + ARGUMENT + "," + STATE + "," + INDEX,
        "public int CopyHeap.raw(int,int,int) throws " + ARGUMENT + "," + STATE + "," + INDEX,
        "public boolean CopyHeap.get(int,int,int) throws " + ARGUMENT + "," + STATE + "," + INDEX,
        "public int CopyHeap.collect()",
        "public int CopyHeap.about(int,int) throws " + ARGUMENT + "," + INDEX,
        "public int CopyHeap.look(int,int) throws " + INDEX,
        "public int CopyHeap.count(int) throws " + INDEX);

    private static final Set<String> shown = new TreeSet<>();
    private static final Set<String> publicNames = new TreeSet<>();

    private static void add(Member member, String text) {
        if (!Modifier.isPrivate(member.getModifiers()) && !member.isSynthetic()) {
            shown.add(text);
            publicNames.add(member.getName());
        }
    }

    public static void main(String[] args) {
        Class<CopyHeap> face = CopyHeap.class;
        for (Constructor<?> each : face.getDeclaredConstructors()) {
            add(each, each.toString());
        }
        for (Method each : face.getDeclaredMethods()) {
            add(each, each.toString());
        }
        for (Field each : face.getDeclaredFields()) {
            add(each, each.toString());
        }
        boolean right = shown.equals(FACE) && face.getModifiers() == (Modifier.PUBLIC | Modifier.FINAL);
        for (Method each : face.getDeclaredMethods()) {
            if (Modifier.isPrivate(each.getModifiers()) && publicNames.contains(each.getName())) {
                right = false;
                System.out.println("a private method bears a public one's name: " + each);
            }
        }
        System.out.println(right ? "the face is the document's" : "the face is not the document's: " + shown);
        if (!right) {
            System.exit(1);
        }
    }
}
