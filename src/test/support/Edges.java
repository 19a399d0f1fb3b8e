import java.util.ArrayList;
import java.util.List;
import java.util.NoSuchElementException;
import java.util.TreeSet;

/**
 * What the tests of the boundary cases share: a sentence of the document with the answers that it
 * asks for, and refused calls, each with the proof that it changed nothing.
 */
final class Edges {
    static final Class<?> MISSING = NoSuchElementException.class;
    static final Class<?> ARGUMENT = IllegalArgumentException.class;
    static final Class<?> STATE = IllegalStateException.class;

    static final int HERE = 1;
    static final int FOLDERS = 2;
    static final int DOCUMENTS = 4;
    static final int NEXT = 8;

    /** Small enough that the calls that make an object, renew it and look at it stay under 512. */
    private static final int LOOKS_AT_ONE_OBJECT = 120;
    private static final int MOST_EXPLAINED = 100;

    private static String sentence = "";
    private static int sentences = 0;
    private static int wrong = 0;

    interface Made {
        FolderRights make();
    }

    interface Call {
        Object on(FolderRights x);
    }

    interface CallWithNumber {
        Object on(FolderRights x, int number);
    }

    private Edges() { }

    /** What follows, up to the next sentence, is asked for by this one. */
    static void sentence(String words) {
        sentence = words;
        sentences++;
    }

    static void end() {
        System.out.println(wrong == 0
            ? sentences + " sentences hold"
            : wrong + " answers are not as due");
        if (wrong != 0) {
            System.exit(1);
        }
    }

    static void due(String what, Object want, FolderRights x, Call call) {
        compare(what, want, outcome(x, call));
    }

    /** The call is refused, by whichever of the three exceptions. */
    static void dueRefused(String what, FolderRights x, Call call) {
        Object got = outcome(x, call);
        compare(what + " is refused", true, List.of(MISSING, ARGUMENT, STATE).contains(got));
    }

    /** The call is refused, and leaves an object as one on which it never was made. */
    static void refused(String what, Class<?> want, Made made, Call call) {
        due(what, want, made.make(), call);
        changesNothing(what, made, call);
        changesNothing(what + ", nothing being stale", () -> renewed(made.make()), call);
    }

    /** The call is refused for the numbers on both sides of those that are taken. */
    static void refusedOutside(String what, Class<?> want, int first, int last, Made made, CallWithNumber call) {
        for (int number : outside(first, last)) {
            refused(what + " " + number, want, made, x -> call.on(x, number));
        }
    }

    static FolderRights renewed(FolderRights x) {
        for (int left = x.stale(); left > 0; left--) {
            x.step();
        }
        return x;
    }

    /** The stale nodes among those that are there, by their numbers. */
    static List<Integer> staleOnes(FolderRights x) {
        List<Integer> found = new ArrayList<>();
        int left = x.count(2);
        for (int node = 0; left > 0; node++) {
            Object stale = outcome(x, told(node));
            if (!MISSING.equals(stale)) {
                left--;
            }
            if (Integer.valueOf(1).equals(stale)) {
                found.add(node);
            }
        }
        return found;
    }

    /** The numbers from the first to the last. */
    static List<Integer> numbers(int first, int last) {
        List<Integer> all = new ArrayList<>();
        for (int number = first; number <= last; number++) {
            all.add(number);
        }
        return all;
    }

    // ---- objects to begin with

    /** Users 0 .. users - 1 and groups 0 .. groups - 1, without members. */
    static FolderRights people(int users, int groups) {
        FolderRights x = new FolderRights();
        for (int i = 1; i < users; i++) {
            x.user();
        }
        for (int i = 0; i < groups; i++) {
            x.group();
        }
        return x;
    }

    /** Each group holds the next one: 0 holds 1, 1 holds 2, and so on. */
    static FolderRights nested(int users, int groups) {
        FolderRights x = people(users, groups);
        for (int i = 1; i < groups; i++) {
            x.join(i - 1, i, true);
        }
        return x;
    }

    /** Users 0 and 1, and folders each in the one before, so that a node's number is its depth. */
    static FolderRights chain(int deepest) {
        FolderRights x = people(2, 0);
        for (int depth = 1; depth <= deepest; depth++) {
            x.node(depth - 1, true, 0);
        }
        return x;
    }

    /** Users 0 and 1, and nodes 0 .. nodes - 1, all but the root in it, the odd ones documents. */
    static FolderRights wide(int nodes) {
        FolderRights x = people(2, 0);
        for (int number = 1; number < nodes; number++) {
            x.node(0, number % 2 == 0, 0);
        }
        return x;
    }

    /** Entries at a node, all alike: user 1 is allowed right 0 here. */
    static FolderRights withEntries(FolderRights x, int node, int entries) {
        for (int i = 0; i < entries; i++) {
            x.entry(node, i, true, 1, false, 1, HERE);
        }
        return x;
    }

    /**
     * Something of everything: 5 users; 3 groups, of which 0 holds user 3 and group 1, that holds
     * user 2, and 2 is empty; the root 0 with folder 1, that holds folder 2, that blocks and holds
     * document 3; in the root document 4 and the empty folder 5. 2 entries at 0, 1 at 1, 1 at 3.
     * The nodes 1 and 3 are not stale.
     */
    static FolderRights office() {
        FolderRights x = people(5, 3);
        x.join(0, 3, false);
        x.join(0, 1, true);
        x.join(1, 2, false);
        x.node(0, true, 1);
        x.node(1, true, 0);
        x.node(2, false, 2);
        x.node(0, false, 0);
        x.node(0, true, 4);
        x.entry(0, 0, true, 0, true, 0b1111, HERE | FOLDERS | DOCUMENTS);
        x.entry(0, 1, false, 3, false, 0b1000, FOLDERS | NEXT);
        x.entry(1, 0, false, 2, false, 0b0010, HERE | DOCUMENTS);
        x.entry(3, 0, true, 4, false, 255, HERE);
        x.block(2, true);
        x.rights(0, 1);
        x.rights(0, 3);
        return x;
    }

    private static Call told(int node) {
        return x -> x.about(node, 7);
    }

    private static Object outcome(FolderRights x, Call call) {
        try {
            return call.on(x);
        } catch (RuntimeException e) {
            return e.getClass();
        }
    }

    private static void compare(String what, Object want, Object got) {
        if (!want.equals(got)) {
            wrong++;
            System.out.println(sentence + " | " + what + ": answered " + got + ", due is " + want);
        }
    }

    /** The nearest ones, the ends of int, and those that bits, bytes or chars would take for a taken one. */
    private static TreeSet<Integer> outside(int first, int last) {
        TreeSet<Integer> found = new TreeSet<>();
        found.add(first - 1);
        found.add(last + 1);
        found.add(Integer.MIN_VALUE);
        found.add(Integer.MAX_VALUE);
        for (int wrap : new int[] {32, 64, 256, 65536}) {
            found.add(first - wrap);
            found.add(first + wrap);
        }
        found.removeIf(number -> first <= number && number <= last);
        return found;
    }

    private static void changesNothing(String what, Made made, Call call) {
        List<Call> looks = looks(made.make());
        for (int from = 0; from < looks.size(); from += LOOKS_AT_ONE_OBJECT) {
            int to = Math.min(from + LOOKS_AT_ONE_OBJECT, looks.size());
            FolderRights untouched = made.make();
            FolderRights refusing = made.make();
            outcome(refusing, call);
            for (Call look : looks.subList(from, to)) {
                compare(what + " changes nothing", outcome(untouched, look), outcome(refusing, look));
            }
        }
    }

    /** Calls that tell all there is to tell of an object; first those that change nothing themselves. */
    private static List<Call> looks(FolderRights x) {
        int users = x.count(0);
        int groups = x.count(1);
        int nodes = x.count(2);
        List<Call> looks = new ArrayList<>();
        looks.add(y -> y.stale());
        for (int what = 0; what < 5; what++) {
            int asked = what;
            looks.add(y -> y.count(asked));
        }
        lookAtNodes(looks, nodes + 1);
        lookAtGroups(looks, users, groups);
        for (int i = 0; i <= nodes; i++) {
            looks.add(y -> y.step());
        }
        lookAtRights(looks, users, nodes + 1);
        lookAtMembers(looks, users, groups);
        looks.add(y -> y.user());
        looks.add(y -> y.group());
        looks.add(y -> y.node(0, true, 0));
        looks.add(y -> y.node(0, false, 0));
        return looks;
    }

    private static void lookAtNodes(List<Call> looks, int nodes) {
        for (int i = 0; i < nodes * 8; i++) {
            int node = i / 8;
            int what = i % 8;
            looks.add(y -> y.about(node, what));
        }
    }

    private static void lookAtGroups(List<Call> looks, int users, int groups) {
        for (int i = 0; i < groups * users; i++) {
            int group = i / users;
            int user = i % users;
            looks.add(y -> y.in(group, user));
        }
    }

    private static void lookAtRights(List<Call> looks, int users, int nodes) {
        for (int i = 0; i < nodes * users; i++) {
            int node = i / users;
            int user = i % users;
            looks.add(y -> y.rights(user, node));
            for (int right = 0; right < 8 && nodes * users <= MOST_EXPLAINED; right++) {
                int asked = right;
                looks.add(y -> y.explain(user, node, asked, 1));
                looks.add(y -> y.explain(user, node, asked, 2));
            }
        }
    }

    /** Only a member that goes tells that it was one itself, and not by another group. */
    private static void lookAtMembers(List<Call> looks, int users, int groups) {
        for (int i = 0; i < groups * (users + groups); i++) {
            int group = i / (users + groups);
            int member = i % (users + groups);
            boolean isGroup = member >= users;
            int number = isGroup ? member - users : member;
            looks.add(y -> y.leave(group, number, isGroup));
        }
    }
}
