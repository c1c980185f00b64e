import java.lang.reflect.Constructor;
import java.lang.reflect.Field;
import java.lang.reflect.Method;
import java.lang.reflect.Modifier;
import java.util.Arrays;
import java.util.Set;
import java.util.TreeSet;

/** The class has the document's face and no other member that is not private. */
public final class FaceTest {
    private static final String[] FACE = {
        "public RowLineage()",
        "public static final int RowLineage.NONE",
        "public static final int RowLineage.BAD",
        "public static final int RowLineage.FULL",
        "public static final int RowLineage.STATE",
        "public int RowLineage.source(int)",
        "public int RowLineage.row(int,int,int,int,int)",
        "public int RowLineage.scan(int)",
        "public int RowLineage.pick(int,int,int,int,int)",
        "public int RowLineage.cols(int,int)",
        "public int RowLineage.join(int,int,int,int)",
        "public int RowLineage.unite(int,int)",
        "public int RowLineage.minus(int,int)",
        "public int RowLineage.fold(int,int,int,int)",
        "public int RowLineage.columns(int)",
        "public int RowLineage.run(int)",
        "public int RowLineage.cell(int,int) throws java.lang.IndexOutOfBoundsException",
        "public int RowLineage.ways(int)",
        "public long RowLineage.way(int,int,int) throws java.lang.IndexOutOfBoundsException,"
            + "java.lang.IllegalArgumentException",
        "public int RowLineage.drop(int,boolean)",
        "public int RowLineage.holds(int)",
        "public int RowLineage.made(int)",
        "public int RowLineage.under(int,long)",
        "public int RowLineage.forward(int)",
        "public int RowLineage.count(int)",
        "public int RowLineage.matters(int,int)",
        "public int RowLineage.blame(int)",
        "public int RowLineage.told(int)",
        "public void RowLineage.clear()",
    };

    public static void main(String[] args) {
        Checks checks = new Checks("FaceTest");
        Set<String> seen = new TreeSet<>();
        for (Constructor<?> member : RowLineage.class.getDeclaredConstructors()) {
            note(seen, member.getModifiers(), member.toString());
        }
        for (Field member : RowLineage.class.getDeclaredFields()) {
            note(seen, member.getModifiers(), member.toString());
        }
        for (Method member : RowLineage.class.getDeclaredMethods()) {
            note(seen, member.getModifiers(), member.toString());
        }
        checks.due("the face", seen, new TreeSet<>(Arrays.asList(FACE)));
        checks.due("public final", RowLineage.class.getModifiers(), Modifier.PUBLIC | Modifier.FINAL);
        checks.due("NONE", RowLineage.NONE, -1);
        checks.due("BAD", RowLineage.BAD, -2);
        checks.due("FULL", RowLineage.FULL, -4);
        checks.due("STATE", RowLineage.STATE, -5);
        noPrivateNamesake(checks, RowLineage.class, RowLineage.class);
        for (Class<?> inside : RowLineage.class.getDeclaredClasses()) {
            checks.due(inside + " is static", Modifier.isStatic(inside.getModifiers()), true);
            noPrivateNamesake(checks, RowLineage.class, inside);
        }
        checks.end();
    }

    private static void note(Set<String> seen, int modifiers, String member) {
        if (!Modifier.isPrivate(modifiers)) {
            seen.add(member);
        }
    }

    private static void noPrivateNamesake(Checks checks, Class<?> face, Class<?> inside) {
        for (Method method : inside.getDeclaredMethods()) {
            for (Method named : face.getMethods()) {
                boolean isFace = method.getDeclaringClass() == face && Modifier.isPublic(method.getModifiers());
                boolean alike = named.getDeclaringClass() == face && named.getName().equals(method.getName());
                checks.due(method + " bears a public method's name", alike && !isFace, false);
            }
        }
    }
}
