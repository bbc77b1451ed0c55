import java.io.IOException;
import java.lang.reflect.Method;
import java.lang.reflect.Modifier;
import java.nio.file.Files;
import java.nio.file.Path;
import java.util.ArrayList;
import java.util.List;

/** README.md names each member of the class, and its example answers what it says. */
public final class SegmentBoxReadmeTest {
    private static int wrong = 0;
    private static int lineOfExample = 0;

    public static void main(String[] args) throws IOException {
        // .ci/run starts each test in the folder of README.md.
        List<String> readme = Files.readAllLines(Path.of("README.md"));
        namesEachMember(readme);
        exampleAnswersWhatItSays(exampleOf(readme));
        if (wrong > 0) {
            System.exit(1);
        }
        System.out.println("README.md is as due");
    }

    private static void namesEachMember(List<String> readme) {
        rowOf(readme, "`SegmentBox(");
        for (Method m : SegmentBox.class.getDeclaredMethods()) {
            if (Modifier.isPublic(m.getModifiers())) {
                String row = rowOf(readme, "`" + m.getReturnType() + " " + m.getName() + "(");
                for (Class<?> thrown : m.getExceptionTypes()) {
                    check(m.getName() + " throws " + thrown.getSimpleName(), row.contains(thrown.getSimpleName()));
                }
            }
        }
    }

    private static String rowOf(List<String> readme, String start) {
        for (String line : readme) {
            if (line.startsWith("| " + start)) {
                return line;
            }
        }
        check("a row of the table for " + start, false);
        return "";
    }

    private static List<String> exampleOf(List<String> readme) {
        List<String> example = new ArrayList<>();
        int from = readme.indexOf("```java") + 1;
        for (int i = from; i < readme.size() && !readme.get(i).equals("```"); i++) {
            example.add(readme.get(i));
        }
        return example;
    }

    private static void exampleAnswersWhatItSays(List<String> example) {
        SegmentBox box = new SegmentBox();
        says(example, "SegmentBox box = new SegmentBox();", "NEXT is " + box.told(0));
        says(example, "box.segment(2, 0x6F6CL, 2);", box.segment(2, 0x6F6CL, 2) + ":");
        says(example, "box.held(2);", "" + box.held(2));
        says(example, "box.block(0, false);", box.block(0, false) + ":");
        says(example, "box.block(0, true);", box.block(0, true) + ":");
        says(example, "box.read();", box.read() + ":");
        says(example, "box.end(3);", box.end(3) + ":");
        says(example, "box.end(4);", box.end(4) + ":");
        says(example, "box.segment(0, 0x6568L, 2);", box.segment(0, 0x6568L, 2) + ":");
        says(example, "box.told(1);", box.told(1) + ":");
        says(example, "box.read();", box.read() + ", then " + box.read() + ", " + box.read() + ", " + box.read()
            + ", then " + box.read() + ":");
        check("the example has " + lineOfExample + " lines", example.size() == lineOfExample);
    }

    private static void says(List<String> example, String code, String answer) {
        String line = lineOfExample < example.size() ? example.get(lineOfExample) : "";
        lineOfExample++;
        check(code + " // " + answer + " is line " + lineOfExample + " of the example",
            line.startsWith(code + " ") && line.substring(code.length()).trim().startsWith("// " + answer));
    }

    private static void check(String what, boolean holds) {
        if (!holds) {
            wrong++;
            System.out.println("README.md, not so: " + what);
        }
    }
}
