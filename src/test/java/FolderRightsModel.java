import java.util.ArrayList;
import java.util.List;
import java.util.NoSuchElementException;
import java.util.TreeMap;
import java.util.TreeSet;

/**
 * Made-up runs of 512 calls; each answer is held against a model that follows the document word by
 * word, one user, node and right at a time, and keeps nothing that could be worked out.
 */
public final class FolderRightsModel {
    private static final int RUNS = 400;
    private static final int CALLS = 512;
    private static final int MOST_REPORTS = 20;

    private static int wrong = 0;

    public static void main(String[] args) {
        for (int run = 0; run < RUNS && wrong < MOST_REPORTS; run++) {
            new Run(run).go();
        }
        System.out.println(wrong == 0 ? "program and model agree" : wrong + " answers differ from the model's");
        if (wrong != 0) {
            System.exit(1);
        }
    }

    private interface Call {
        Object answer();
    }

    private static Object outcome(Call call) {
        try {
            return call.answer();
        } catch (RuntimeException e) {
            return e.getClass().getSimpleName();
        }
    }

    /** One run: its own numbers, the same ones each time. */
    private static final class Run {
        private final int run;
        private long state;
        private final FolderRights program = new FolderRights();
        private final Model model = new Model();
        private final boolean deep;
        private final boolean wide;
        private int called;

        Run(int run) {
            this.run = run;
            state = run * 7919L + 17;
            deep = run % 4 == 1;
            wide = run % 4 == 2;
        }

        private int below(int bound) {
            state = state * 6364136223846793005L + 1442695040888963407L;
            return (int) ((state >>> 33) % bound);
        }

        private boolean flip() {
            return below(2) == 0;
        }

        /** Mostly one that is there, at times one beside. */
        private int some(int size) {
            if (below(25) == 0) {
                return flip() ? -1 - below(2) : size + below(3);
            }
            return size == 0 ? 0 : below(size);
        }

        private int someUser() {
            return some(model.users);
        }

        private int someGroup() {
            return some(model.groups.size());
        }

        private int someNode() {
            if (below(25) == 0) {
                return below(160) - 4;
            }
            if (deep && below(3) != 0) {
                return deepest();
            }
            List<Integer> numbers = new ArrayList<>(model.nodes.keySet());
            return numbers.get(below(numbers.size()));
        }

        private int deepest() {
            int found = 0;
            for (int number : model.nodes.keySet()) {
                Place place = model.nodes.get(number);
                if (place.folder && model.depth(number) > model.depth(found)) {
                    found = number;
                }
            }
            return found;
        }

        private void check(String told, Call asked, Call due) {
            Object got = outcome(asked);
            Object want = outcome(due);
            called++;
            if (!want.equals(got) && wrong < MOST_REPORTS) {
                wrong++;
                System.out.println("run " + run + ", call " + called + ": " + told
                    + " answered " + got + ", due is " + want);
            }
        }

        void go() {
            while (called < CALLS) {
                int kind = below(100);
                if (wide && called < 260) {
                    kind = 12 + below(14);
                }
                if (kind < 6) {
                    check("user()", () -> program.user(), () -> model.user());
                } else if (kind < 9) {
                    check("group()", () -> program.group(), () -> model.group());
                } else if (kind < 14) {
                    members();
                } else if (kind < 34) {
                    tree();
                } else if (kind < 52) {
                    entries();
                } else if (kind < 58) {
                    blockOrOwner();
                } else if (kind < 88) {
                    decisions();
                } else {
                    rest();
                }
            }
        }

        private void members() {
            int group = someGroup();
            boolean isGroup = flip();
            int member = isGroup ? someGroup() : someUser();
            if (below(4) != 0) {
                check("join(" + group + ", " + member + ", " + isGroup + ")",
                    () -> program.join(group, member, isGroup), () -> model.join(group, member, isGroup));
            } else {
                check("leave(" + group + ", " + member + ", " + isGroup + ")",
                    () -> program.leave(group, member, isGroup), () -> model.leave(group, member, isGroup));
            }
        }

        private void tree() {
            int node = someNode();
            int parent = someNode();
            int user = someUser();
            boolean folder = below(3) != 0;
            int kind = below(wide ? 40 : 10);
            if (kind == 0) {
                check("remove(" + node + ")", () -> program.remove(node), () -> model.remove(node));
            } else if (kind < 4) {
                check("move(" + node + ", " + parent + ")",
                    () -> program.move(node, parent), () -> model.move(node, parent));
            } else {
                check("node(" + parent + ", " + folder + ", " + user + ")",
                    () -> program.node(parent, folder, user), () -> model.node(parent, folder, user));
            }
        }

        private void entries() {
            int node = below(3) == 0 ? 0 : someNode();
            int there = model.nodes.containsKey(node) ? model.nodes.get(node).entries.size() : 0;
            if (below(6) == 0) {
                int position = some(there);
                check("dropEntry(" + node + ", " + position + ")",
                    () -> program.dropEntry(node, position), () -> model.dropEntry(node, position));
                return;
            }
            boolean allows = below(5) < 3;
            boolean isGroup = flip();
            int whom = isGroup ? someGroup() : someUser();
            int position = some(there + 1);
            int rights = below(25) == 0 ? below(600) - 300 : 1 + below(255);
            int flags = below(25) == 0 ? below(40) - 20 : 1 + below(15);
            check("entry(" + node + ", " + position + ", " + allows + ", " + whom + ", " + isGroup
                    + ", " + rights + ", " + flags + ")",
                () -> program.entry(node, position, allows, whom, isGroup, rights, flags),
                () -> model.entry(node, position, allows, whom, isGroup, rights, flags));
        }

        private void blockOrOwner() {
            int node = someNode();
            if (flip()) {
                boolean blocks = below(3) == 0;
                check("block(" + node + ", " + blocks + ")",
                    () -> program.block(node, blocks), () -> model.block(node, blocks));
            } else {
                int user = someUser();
                check("owner(" + node + ", " + user + ")",
                    () -> program.owner(node, user), () -> model.owner(node, user));
            }
        }

        private void decisions() {
            int user = someUser();
            int node = someNode();
            int other = someNode();
            int right = some(8);
            int k = below(25) == 0 ? -1 : below(4) == 0 ? below(60) : below(5);
            int field = some(3);
            int kind = below(10);
            if (kind < 4) {
                check("rights(" + user + ", " + node + ")",
                    () -> program.rights(user, node), () -> model.rights(user, node));
            } else if (kind < 7) {
                check("explain(" + user + ", " + node + ", " + right + ", " + field + ")",
                    () -> program.explain(user, node, right, field), () -> model.explain(user, node, right, field));
            } else if (kind == 7) {
                check("who(" + node + ", " + right + ", " + k + ")",
                    () -> program.who(node, right, k), () -> model.who(node, right, k));
            } else if (kind == 8) {
                check("where(" + user + ", " + right + ", " + k + ")",
                    () -> program.where(user, right, k), () -> model.where(user, right, k));
            } else {
                check("same(" + node + ", " + other + ")",
                    () -> program.same(node, other), () -> model.same(node, other));
            }
        }

        private void rest() {
            int node = someNode();
            int group = someGroup();
            int user = someUser();
            int what = some(8);
            int kind = below(5);
            if (kind == 0) {
                check("step()", () -> program.step(), () -> model.step());
            } else if (kind == 1) {
                check("stale()", () -> program.stale(), () -> model.stale());
            } else if (kind == 2) {
                check("in(" + group + ", " + user + ")",
                    () -> program.in(group, user), () -> model.in(group, user));
            } else if (kind == 3) {
                check("about(" + node + ", " + what + ")",
                    () -> program.about(node, what), () -> model.about(node, what));
            } else {
                check("count(" + what + ")", () -> program.count(what), () -> model.count(what));
            }
        }
    }

    // ---- the model

    private record Right(boolean allows, int whom, boolean isGroup, int rights, int flags) { }

    private static final class Place {
        int parent;
        boolean folder;
        int owner;
        boolean blocks;
        boolean stale = true;
        final List<Right> entries = new ArrayList<>();
    }

    private static final class Group {
        final TreeSet<Integer> users = new TreeSet<>();
        final TreeSet<Integer> groups = new TreeSet<>();
    }

    private static final class Model {
        int users = 1;
        final List<Group> groups = new ArrayList<>();
        final TreeMap<Integer, Place> nodes = new TreeMap<>();

        Model() {
            Place root = new Place();
            root.parent = -1;
            root.folder = true;
            nodes.put(0, root);
        }

        private static void exists(boolean there) {
            if (!there) {
                throw new NoSuchElementException();
            }
        }

        private static void argument(boolean good) {
            if (!good) {
                throw new IllegalArgumentException();
            }
        }

        private static void state(boolean good) {
            if (!good) {
                throw new IllegalStateException();
            }
        }

        private boolean isUser(int user) {
            return 0 <= user && user < users;
        }

        private boolean isGroup(int group) {
            return 0 <= group && group < groups.size();
        }

        private boolean isNode(int node) {
            return nodes.containsKey(node);
        }

        private boolean isWhom(int whom, boolean asGroup) {
            return asGroup ? isGroup(whom) : isUser(whom);
        }

        int user() {
            state(users < 60);
            users++;
            return users - 1;
        }

        int group() {
            state(groups.size() < 24);
            groups.add(new Group());
            return groups.size() - 1;
        }

        private boolean holds(int group, int inner) {
            if (group == inner) {
                return true;
            }
            for (int member : groups.get(group).groups) {
                if (holds(member, inner)) {
                    return true;
                }
            }
            return false;
        }

        boolean join(int group, int member, boolean asGroup) {
            exists(isGroup(group) && isWhom(member, asGroup));
            state(!asGroup || !holds(member, group));
            return asGroup ? groups.get(group).groups.add(member) : groups.get(group).users.add(member);
        }

        boolean leave(int group, int member, boolean asGroup) {
            exists(isGroup(group) && isWhom(member, asGroup));
            return asGroup ? groups.get(group).groups.remove(member) : groups.get(group).users.remove(member);
        }

        int depth(int node) {
            return node == 0 ? 0 : 1 + depth(nodes.get(node).parent);
        }

        private boolean isAbove(int upper, int node) {
            return node != 0 && (nodes.get(node).parent == upper || isAbove(upper, nodes.get(node).parent));
        }

        int node(int parent, boolean folder, int owner) {
            exists(isNode(parent) && isUser(owner));
            argument(nodes.get(parent).folder);
            state(nodes.size() < 150 && depth(parent) < 20);
            int number = 0;
            while (isNode(number)) {
                number++;
            }
            Place place = new Place();
            place.parent = parent;
            place.folder = folder;
            place.owner = owner;
            nodes.put(number, place);
            return number;
        }

        int move(int node, int parent) {
            exists(isNode(node) && isNode(parent));
            argument(node != 0 && nodes.get(parent).folder && node != parent && !isAbove(node, parent));
            int before = nodes.get(node).parent;
            nodes.get(node).parent = parent;
            boolean tooDeep = false;
            for (int each : nodes.keySet()) {
                tooDeep |= depth(each) > 20;
            }
            if (tooDeep) {
                nodes.get(node).parent = before;
            }
            state(!tooDeep);
            spread(node, true);
            return depth(node);
        }

        private void spread(int from, boolean itToo) {
            for (int each : nodes.keySet()) {
                if (isAbove(from, each) || itToo && each == from) {
                    nodes.get(each).stale = true;
                }
            }
        }

        int remove(int node) {
            exists(isNode(node));
            argument(node != 0);
            for (int each : nodes.keySet()) {
                state(!isAbove(node, each));
            }
            return nodes.remove(node).entries.size();
        }

        int entry(int node, int position, boolean allows, int whom, boolean asGroup, int rights, int flags) {
            exists(isNode(node) && isWhom(whom, asGroup));
            List<Right> entries = nodes.get(node).entries;
            argument(0 <= position && position <= entries.size());
            argument(1 <= rights && rights <= 255 && 1 <= flags && flags <= 15 && flags != 8);
            state(entries.size() < 12);
            entries.add(position, new Right(allows, whom, asGroup, rights, flags));
            spread(node, false);
            return entries.size();
        }

        int dropEntry(int node, int position) {
            exists(isNode(node) && 0 <= position && position < nodes.get(node).entries.size());
            nodes.get(node).entries.remove(position);
            spread(node, false);
            return nodes.get(node).entries.size();
        }

        boolean block(int node, boolean blocks) {
            exists(isNode(node));
            boolean before = nodes.get(node).blocks;
            nodes.get(node).blocks = blocks;
            if (before != blocks) {
                spread(node, true);
            }
            return before;
        }

        int owner(int node, int user) {
            exists(isNode(node) && isUser(user));
            int before = nodes.get(node).owner;
            nodes.get(node).owner = user;
            return before;
        }

        private boolean reaches(Right entry, int holder, int node) {
            Place place = nodes.get(node);
            if (holder == node) {
                return (entry.flags() & 1) != 0;
            }
            boolean sort = place.folder ? (entry.flags() & 2) != 0 : (entry.flags() & 4) != 0;
            boolean nextAlone = (entry.flags() & 8) != 0;
            return sort && (!nextAlone || place.parent == holder);
        }

        private boolean matches(Right entry, int user, int right) {
            boolean named = entry.isGroup() ? in(entry.whom(), user) : entry.whom() == user;
            return named && (entry.rights() & 1 << right) != 0;
        }

        /** Sort, node and position of what decides. */
        private int[] decides(int user, int node, int right) {
            if (right == 7 && nodes.get(node).owner == user) {
                return new int[] {0, node, -1};
            }
            int at = node;
            while (at != -1) {
                List<Right> entries = nodes.get(at).entries;
                for (int sort = 2; sort >= 1; sort--) {
                    for (int position = 0; position < entries.size(); position++) {
                        Right entry = entries.get(position);
                        if (entry.allows() == (sort == 1) && reaches(entry, at, node) && matches(entry, user, right)) {
                            return new int[] {sort, at, position};
                        }
                    }
                }
                at = nodes.get(at).blocks ? -1 : nodes.get(at).parent;
            }
            return new int[] {3, -1, -1};
        }

        private boolean has(int user, int node, int right) {
            return decides(user, node, right)[0] <= 1;
        }

        private int allRights(int user, int node) {
            int bits = 0;
            for (int right = 0; right <= 7; right++) {
                bits += has(user, node, right) ? 1 << right : 0;
            }
            return bits;
        }

        int rights(int user, int node) {
            exists(isUser(user) && isNode(node));
            nodes.get(node).stale = false;
            return allRights(user, node);
        }

        int explain(int user, int node, int right, int field) {
            exists(isUser(user) && isNode(node));
            argument(0 <= right && right <= 7 && 0 <= field && field <= 2);
            nodes.get(node).stale = false;
            return decides(user, node, right)[field];
        }

        int who(int node, int right, int k) {
            exists(isNode(node));
            argument(0 <= right && right <= 7 && k >= 0);
            nodes.get(node).stale = false;
            List<Integer> having = new ArrayList<>();
            for (int user = 0; user < users; user++) {
                if (has(user, node, right)) {
                    having.add(user);
                }
            }
            return k < having.size() ? having.get(k) : -1;
        }

        int where(int user, int right, int k) {
            exists(isUser(user));
            argument(0 <= right && right <= 7 && k >= 0);
            int left = k + 1;
            for (int node : nodes.keySet()) {
                nodes.get(node).stale = false;
                left -= has(user, node, right) ? 1 : 0;
                if (left == 0) {
                    return node;
                }
            }
            return -1;
        }

        boolean same(int one, int other) {
            exists(isNode(one) && isNode(other));
            nodes.get(one).stale = false;
            nodes.get(other).stale = false;
            boolean equal = true;
            for (int user = 0; user < users; user++) {
                equal &= allRights(user, one) == allRights(user, other);
            }
            return equal;
        }

        int step() {
            for (int node : nodes.keySet()) {
                if (nodes.get(node).stale) {
                    nodes.get(node).stale = false;
                    return node;
                }
            }
            return -1;
        }

        int stale() {
            int stale = 0;
            for (Place place : nodes.values()) {
                stale += place.stale ? 1 : 0;
            }
            return stale;
        }

        boolean in(int group, int user) {
            exists(isGroup(group) && isUser(user));
            if (groups.get(group).users.contains(user)) {
                return true;
            }
            for (int member : groups.get(group).groups) {
                if (in(member, user)) {
                    return true;
                }
            }
            return false;
        }

        int about(int node, int what) {
            exists(isNode(node));
            argument(0 <= what && what <= 7);
            Place place = nodes.get(node);
            int children = 0;
            for (Place each : nodes.values()) {
                children += each.parent == node ? 1 : 0;
            }
            int[] told = {place.parent, place.folder ? 1 : 0, place.owner, place.blocks ? 1 : 0,
                depth(node), place.entries.size(), children, place.stale ? 1 : 0};
            return told[what];
        }

        int count(int what) {
            argument(0 <= what && what <= 4);
            int entries = 0;
            for (Place place : nodes.values()) {
                entries += place.entries.size();
            }
            int members = 0;
            for (Group group : groups) {
                members += group.users.size() + group.groups.size();
            }
            int[] told = {users, groups.size(), nodes.size(), entries, members};
            return told[what];
        }
    }
}
