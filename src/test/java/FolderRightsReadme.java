import java.io.IOException;
import java.lang.reflect.Method;
import java.lang.reflect.Modifier;
import java.nio.file.Files;
import java.nio.file.Path;
import java.util.ArrayList;
import java.util.List;

/** README.md tells the truth: its example answers what is written beside it, its table has every call. */
public final class FolderRightsReadme {
    private static int wrong = 0;

    public static void main(String[] args) throws IOException {
        List<String> readme = Files.readAllLines(Path.of("README.md"));
        checkExample(exampleOf(readme));
        checkTable(callsOfTable(readme));
        System.out.println(wrong == 0 ? "README.md is true" : wrong + " faults in README.md");
        if (wrong != 0) {
            System.exit(1);
        }
    }

    private static void report(String fault) {
        wrong++;
        System.out.println(fault);
    }

    // ---- the example

    private static List<String> exampleOf(List<String> readme) {
        int from = readme.indexOf("```java") + 1;
        return readme.subList(from, from + readme.subList(from, readme.size()).indexOf("```"));
    }

    /** The same calls as in README.md, each as it is written there with what it answers. */
    private static void checkExample(List<String> example) {
        List<String> made = new ArrayList<>();
        made.add("FolderRights x = new FolderRights(); // user 0, who owns node 0, the root");
        FolderRights x = new FolderRights();
        int ann = x.user();
        made.add("int ann = x.user(); // " + ann);
        int staff = x.group();
        made.add("int staff = x.group(); // " + staff);
        made.add("x.join(staff, ann, false); // " + x.join(staff, ann, false));
        int folder = x.node(0, true, 0);
        made.add("int folder = x.node(0, true, 0); // " + folder);
        int letter = x.node(folder, false, 0);
        made.add("int letter = x.node(folder, false, 0); // " + letter);
        made.add("x.entry(0, 0, true, staff, true, 0b11, 1 | 2 | 4); // "
            + x.entry(0, 0, true, staff, true, 0b11, 1 | 2 | 4));
        made.add("x.entry(folder, 0, false, ann, false, 0b10, 4); // "
            + x.entry(folder, 0, false, ann, false, 0b10, 4));
        made.add("x.rights(ann, letter); // " + x.rights(ann, letter));
        made.add("x.explain(ann, letter, 1, 0); // " + x.explain(ann, letter, 1, 0));
        made.add("x.explain(ann, letter, 1, 1); // " + x.explain(ann, letter, 1, 1));
        made.add("x.explain(ann, letter, 1, 2); // " + x.explain(ann, letter, 1, 2));
        made.add("x.stale(); // " + x.stale());
        holdAgainst(made, example);
    }

    private static void holdAgainst(List<String> made, List<String> example) {
        if (made.size() != example.size()) {
            report("the example has " + example.size() + " lines, the test " + made.size());
        }
        for (int line = 0; line < Math.min(made.size(), example.size()); line++) {
            String told = example.get(line).replaceAll(" +// ", " // ").replaceAll("(// [^:]*):.*", "$1");
            if (!told.equals(made.get(line))) {
                report("README.md tells: " + told + ", due is: " + made.get(line));
            }
        }
    }

    // ---- the table

    private static List<String> callsOfTable(List<String> readme) {
        List<String> calls = new ArrayList<>();
        for (String line : readme) {
            if (line.startsWith("| `")) {
                calls.add(line.substring(3, line.indexOf('`', 3)));
            }
        }
        return calls;
    }

    private static void checkTable(List<String> calls) {
        List<String> told = new ArrayList<>();
        for (String call : calls) {
            int open = call.indexOf('(');
            String arguments = call.substring(open + 1, call.length() - 1);
            told.add(call.substring(0, open) + " " + (arguments.isEmpty() ? 0 : arguments.split(", ").length));
        }
        List<String> methods = new ArrayList<>();
        for (Method method : FolderRights.class.getDeclaredMethods()) {
            if (Modifier.isPublic(method.getModifiers())) {
                methods.add(method.getName() + " " + method.getParameterCount());
            }
        }
        told.sort(null);
        methods.sort(null);
        if (!told.equals(methods)) {
            report("README.md has the calls " + told + ", due are " + methods);
        }
    }
}
