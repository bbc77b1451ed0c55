import java.lang.reflect.Constructor;
import java.lang.reflect.Field;
import java.lang.reflect.Method;
import java.lang.reflect.Modifier;
import java.util.Set;
import java.util.TreeSet;

/** The public face is just the document's, and nothing else can be seen from outside. */
public final class SegmentBoxFaceTest {
    private static final Set<String> FACE = Set.of(
        "public final class SegmentBox",
        "public SegmentBox()",
        "public void SegmentBox.open(int)",
        "public int SegmentBox.segment(int,long,int) throws java.lang.IllegalArgumentException",
        "public boolean SegmentBox.end(int)",
        "public int SegmentBox.read()",
        "public int SegmentBox.told(int) throws java.lang.IllegalArgumentException",
        "public int SegmentBox.block(int,boolean) throws java.lang.IndexOutOfBoundsException",
        "public boolean SegmentBox.held(int)");

    public static void main(String[] args) {
        Set<String> seen = visibleMembers();
        Set<String> missing = new TreeSet<>(FACE);
        missing.removeAll(seen);
        Set<String> tooMany = new TreeSet<>(seen);
        tooMany.removeAll(FACE);
        missing.forEach(member -> System.out.println("missing: " + member));
        tooMany.forEach(member -> System.out.println("not of the face: " + member));
        Set<String> doubled = privateNamesOfTheFace();
        doubled.forEach(name -> System.out.println("a private method bears the public name " + name));
        if (!missing.isEmpty() || !tooMany.isEmpty() || !doubled.isEmpty()) {
            System.exit(1);
        }
        System.out.println("the face is as due");
    }

    private static Set<String> visibleMembers() {
        Set<String> seen = new TreeSet<>();
        seen.add(SegmentBox.class.toGenericString());
        for (Constructor<?> c : SegmentBox.class.getDeclaredConstructors()) {
            if (!Modifier.isPrivate(c.getModifiers())) {
                seen.add(c.toGenericString());
            }
        }
        for (Method m : SegmentBox.class.getDeclaredMethods()) {
            if (!Modifier.isPrivate(m.getModifiers()) && !m.isSynthetic()) {
                seen.add(m.toGenericString());
            }
        }
        for (Field f : SegmentBox.class.getDeclaredFields()) {
            if (!Modifier.isPrivate(f.getModifiers()) && !f.isSynthetic()) {
                seen.add(f.toGenericString());
            }
        }
        return seen;
    }

    private static Set<String> privateNamesOfTheFace() {
        Set<String> publicNames = new TreeSet<>();
        Set<String> privateNames = new TreeSet<>();
        for (Method m : SegmentBox.class.getDeclaredMethods()) {
            (Modifier.isPublic(m.getModifiers()) ? publicNames : privateNames).add(m.getName());
        }
        privateNames.retainAll(publicNames);
        return privateNames;
    }
}
