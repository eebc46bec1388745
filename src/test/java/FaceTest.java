import java.lang.reflect.Constructor;
import java.lang.reflect.Field;
import java.lang.reflect.Method;
import java.lang.reflect.Modifier;
import java.util.Set;
import java.util.TreeSet;

/** The class shows the document's face, and nothing besides. */
public final class FaceTest {
    private static final String[] FACE = {
        "public static final int UNKNOWN -1", "public static final int OUTSIDE -2", "public static final int FULL -4",
        "public static final int NONE -5", "public static final int PASSED -6",
        "public SortingLine()",
        "public int SortingLine.thing(int,int)",
        "public int SortingLine.row(int,int)",
        "public int SortingLine.is(int,int)",
        "public int SortingLine.more(int)",
        "public int SortingLine.weight(int,int)",
        "public int SortingLine.length(int,int)",
        "public int SortingLine.put(int,int,int,long)",
        "public long SortingLine.number(int,int,int) throws java.lang.ClassCastException,"
            + "java.lang.ArrayIndexOutOfBoundsException",
        "public int SortingLine.lay(int,int,int,int)",
        "public int SortingLine.place(int,int,int)",
        "public int SortingLine.station(int,int)",
        "public int SortingLine.send(int)",
        "public int SortingLine.step()",
        "public int SortingLine.run(int)",
        "public long SortingLine.total(int)",
        "public int SortingLine.slot(int)",
        "public int SortingLine.belt(int)",
        "public int SortingLine.side(int,int)",
        "public int SortingLine.count(int)",
        "public int SortingLine.clear()",
    };

    public static void main(String[] args) throws IllegalAccessException {
        Set<String> want = new TreeSet<>();
        for (String member : FACE) {
            want.add(member);
        }
        Set<String> got = shown();
        boolean same = got.equals(want) && Modifier.isFinal(SortingLine.class.getModifiers())
            && Modifier.isPublic(SortingLine.class.getModifiers());
        if (!same) {
            System.out.println("the face is " + got + ", due is " + want);
            System.exit(1);
        }
        System.out.println("the face is as due");
    }

    private static Set<String> shown() throws IllegalAccessException {
        Set<String> got = new TreeSet<>();
        for (Field field : SortingLine.class.getDeclaredFields()) {
            if (!Modifier.isPrivate(field.getModifiers())) {
                got.add(Modifier.toString(field.getModifiers()) + " " + field.getType() + " " + field.getName() + " "
                    + field.get(null));
            }
        }
        for (Constructor<?> constructor : SortingLine.class.getDeclaredConstructors()) {
            got.add(constructor.toString());
        }
        for (Method method : SortingLine.class.getDeclaredMethods()) {
            if (!Modifier.isPrivate(method.getModifiers())) {
                got.add(method.toString());
            }
        }
        return got;
    }
}
