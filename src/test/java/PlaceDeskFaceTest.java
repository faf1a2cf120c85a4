import java.lang.reflect.Constructor;
import java.lang.reflect.Field;
import java.lang.reflect.Method;
import java.lang.reflect.Modifier;
import java.util.Arrays;
import java.util.Set;
import java.util.TreeSet;

/** The face of the class is the document's, and nothing else can be seen from outside. */
public final class PlaceDeskFaceTest {
    private static final Set<String> FACE = new TreeSet<>(Arrays.asList(
        "public static final int PlaceDesk.NONE",
        "public PlaceDesk()",
        "public int PlaceDesk.row(int,int)",
        "public boolean PlaceDesk.put(int)",
        "public int PlaceDesk.instance()",
        "public int PlaceDesk.object(int,int)",
        "public int PlaceDesk.place(int,int)",
        "public int PlaceDesk.view(int,int,int,boolean)",
        "public int PlaceDesk.kindOf(int)",
        "public long PlaceDesk.act(int,int,long,long) throws java.lang.IllegalArgumentException",
        "public boolean PlaceDesk.copy(int,int,int,int,int)",
        "public boolean PlaceDesk.meet(int,int)",
        "public int PlaceDesk.mark()",
        "public int PlaceDesk.back(int)",
        "public int PlaceDesk.changed(int)"));

    public static void main(String[] args) {
        Set<String> seen = new TreeSet<>();
        for (Field field : PlaceDesk.class.getDeclaredFields()) {
            keepIfSeen(seen, field.getModifiers(), field.toString());
        }
        for (Constructor<?> constructor : PlaceDesk.class.getDeclaredConstructors()) {
            keepIfSeen(seen, constructor.getModifiers(), constructor.toString());
        }
        for (Method method : PlaceDesk.class.getDeclaredMethods()) {
            keepIfSeen(seen, method.getModifiers(), method.toString());
        }
        for (String member : FACE) {
            Check.yes("has " + member, seen.contains(member));
        }
        for (String member : seen) {
            Check.yes("may have " + member, FACE.contains(member));
        }
        Check.yes("the class is public", Modifier.isPublic(PlaceDesk.class.getModifiers()));
        Check.yes("the class is final", Modifier.isFinal(PlaceDesk.class.getModifiers()));
        Check.due("NONE", PlaceDesk.NONE, -1);
        Check.end();
    }

    private static void keepIfSeen(Set<String> seen, int modifiers, String member) {
        if (!Modifier.isPrivate(modifiers)) {
            seen.add(member);
        }
    }
}
