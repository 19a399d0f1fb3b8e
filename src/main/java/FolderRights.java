import java.util.ArrayList;
import java.util.NoSuchElementException;

/**
 * Who may do what in a tree of folders and documents.
 *
 * Sets of users and of groups are held as bits of a long, since there are at most 60 of them.
 * What a node inherits is worked out anew from the nodes above it whenever it is asked for, so that
 * no answer can be out of date; of the spreading only the mark is kept that tells a stale node.
 */
public final class FolderRights {
    public static final int NONE = -1;

    private static final int MOST_USERS = 60;
    private static final int MOST_GROUPS = 24;
    private static final int MOST_NODES = 150;
    private static final int MOST_ENTRIES = 12;
    private static final int DEEPEST = 20;

    private static final int ROOT = 0;

    private static final int RIGHTS = 8;
    private static final int ALL_RIGHTS = 255;
    private static final int OWNERS_RIGHT = 7;

    private static final int HERE = 1;
    private static final int FOLDERS = 2;
    private static final int DOCUMENTS = 4;
    private static final int NEXT = 8;
    private static final int ALL_FLAGS = 15;

    private static final int BY_OWNER = 0;
    private static final int BY_ALLOWING = 1;
    private static final int BY_DENYING = 2;
    private static final int BY_NOTHING = 3;

    private static final int FIELD_SORT = 0;
    private static final int FIELD_NODE = 1;
    private static final int FIELD_POSITION = 2;

    private final Groups groups;
    private final Node[] nodes;
    private int users;

    public FolderRights() {
        groups = new Groups();
        nodes = new Node[MOST_NODES];
        nodes[ROOT] = new Node(ROOT, null, true, 0);
        users = 1;
    }

    // ---- users and groups

    public int user() throws IllegalStateException {
        if (users >= MOST_USERS) {
            throw new IllegalStateException("there are 60 users");
        }
        return users++;
    }

    public int group() throws IllegalStateException {
        if (groups.size >= MOST_GROUPS) {
            throw new IllegalStateException("there are 24 groups");
        }
        return groups.size++;
    }

    public boolean join(int group, int member, boolean isGroup)
            throws NoSuchElementException, IllegalStateException {
        requireGroup(group);
        requireUserOrGroup(member, isGroup);
        if (isGroup && groups.wouldHoldItself(group, member)) {
            throw new IllegalStateException("a group would hold itself");
        }
        if (groups.hasMember(group, member, isGroup)) {
            return false;
        }
        groups.turnMember(group, member, isGroup);
        return true;
    }

    public boolean leave(int group, int member, boolean isGroup) throws NoSuchElementException {
        requireGroup(group);
        requireUserOrGroup(member, isGroup);
        if (!groups.hasMember(group, member, isGroup)) {
            return false;
        }
        groups.turnMember(group, member, isGroup);
        return true;
    }

    // ---- nodes

    public int node(int parent, boolean folder, int owner)
            throws NoSuchElementException, IllegalArgumentException, IllegalStateException {
        Node above = nodeAt(parent);
        requireUser(owner);
        requireFolder(above);
        int number = freeNumber();
        if (number == NONE) {
            throw new IllegalStateException("there are 150 nodes");
        }
        if (above.depth() >= DEEPEST) {
            throw new IllegalStateException("it would be deeper than 20");
        }
        nodes[number] = new Node(number, above, folder, owner);
        return number;
    }

    public int move(int node, int parent)
            throws NoSuchElementException, IllegalArgumentException, IllegalStateException {
        Node moved = nodeAt(node);
        Node above = nodeAt(parent);
        requireNotRoot(moved);
        requireFolder(above);
        if (above.liesWithin(moved)) {
            throw new IllegalArgumentException("the parent is the node or lies below it");
        }
        int depth = above.depth() + 1;
        if (depth + heightOf(moved) > DEEPEST) {
            throw new IllegalStateException("some node would be deeper than 20");
        }
        moved.parent = above;
        markStaleBelow(moved);
        moved.stale = true;
        return depth;
    }

    public int remove(int node)
            throws NoSuchElementException, IllegalArgumentException, IllegalStateException {
        Node gone = nodeAt(node);
        requireNotRoot(gone);
        if (childrenOf(gone) > 0) {
            throw new IllegalStateException("some node is below it");
        }
        nodes[node] = null;
        return gone.entries.size();
    }

    public int entry(int node, int position, boolean allows, int whom, boolean isGroup, int rights, int flags)
            throws NoSuchElementException, IllegalArgumentException, IllegalStateException {
        Node at = nodeAt(node);
        requireUserOrGroup(whom, isGroup);
        if (position < 0 || position > at.entries.size()) {
            throw new IllegalArgumentException("position is not 0 .. the number of entries");
        }
        if (rights < 1 || rights > ALL_RIGHTS) {
            throw new IllegalArgumentException("rights are not 1 .. 255");
        }
        if (flags < 1 || flags > ALL_FLAGS || flags == NEXT) {
            throw new IllegalArgumentException("flags are not 1 .. 15, or 8 alone");
        }
        if (at.entries.size() >= MOST_ENTRIES) {
            throw new IllegalStateException("there are twelve entries");
        }
        at.entries.add(position, new Entry(allows, whom, isGroup, rights, flags));
        markStaleBelow(at);
        return at.entries.size();
    }

    public int dropEntry(int node, int position) throws NoSuchElementException {
        Node at = nodeAt(node);
        if (position < 0 || position >= at.entries.size()) {
            throw new NoSuchElementException("no such entry");
        }
        at.entries.remove(position);
        markStaleBelow(at);
        return at.entries.size();
    }

    public boolean block(int node, boolean blocks) throws NoSuchElementException {
        Node at = nodeAt(node);
        boolean before = at.blocks;
        if (before != blocks) {
            at.blocks = blocks;
            markStaleBelow(at);
            at.stale = true;
        }
        return before;
    }

    public int owner(int node, int user) throws NoSuchElementException {
        Node at = nodeAt(node);
        requireUser(user);
        int before = at.owner;
        at.owner = user;
        return before;
    }

    // ---- answers

    public int rights(int user, int node) throws NoSuchElementException {
        requireUser(user);
        Node at = nodeAt(node);
        at.stale = false;
        int bits = 0;
        for (int right = 0; right < RIGHTS; right++) {
            if (isSet(holders(at, right), user)) {
                bits |= 1 << right;
            }
        }
        return bits;
    }

    public int explain(int user, int node, int right, int field)
            throws NoSuchElementException, IllegalArgumentException {
        requireUser(user);
        Node at = nodeAt(node);
        requireRight(right);
        if (field < FIELD_SORT || field > FIELD_POSITION) {
            throw new IllegalArgumentException("no such field");
        }
        at.stale = false;
        if (right == OWNERS_RIGHT && at.owner == user) {
            return fieldOf(field, BY_OWNER, node, NONE);
        }
        for (Node level = at; level != null; level = level.nextLevel()) {
            int position = decidingPosition(level, at, user, right);
            if (position != NONE) {
                int sort = level.entries.get(position).allows ? BY_ALLOWING : BY_DENYING;
                return fieldOf(field, sort, level.number, position);
            }
        }
        return fieldOf(field, BY_NOTHING, NONE, NONE);
    }

    public int who(int node, int right, int k) throws NoSuchElementException, IllegalArgumentException {
        Node at = nodeAt(node);
        requireRight(right);
        requirePlace(k);
        at.stale = false;
        long having = holders(at, right);
        int before = 0;
        for (int user = 0; user < users; user++) {
            if (isSet(having, user)) {
                if (before == k) {
                    return user;
                }
                before++;
            }
        }
        return NONE;
    }

    public int where(int user, int right, int k) throws NoSuchElementException, IllegalArgumentException {
        requireUser(user);
        requireRight(right);
        requirePlace(k);
        int before = 0;
        for (Node at : nodes) {
            if (at != null) {
                at.stale = false;
                if (isSet(holders(at, right), user)) {
                    if (before == k) {
                        return at.number;
                    }
                    before++;
                }
            }
        }
        return NONE;
    }

    public boolean same(int one, int other) throws NoSuchElementException {
        Node first = nodeAt(one);
        Node second = nodeAt(other);
        first.stale = false;
        second.stale = false;
        for (int right = 0; right < RIGHTS; right++) {
            if (holders(first, right) != holders(second, right)) {
                return false;
            }
        }
        return true;
    }

    public int step() {
        for (Node at : nodes) {
            if (at != null && at.stale) {
                at.stale = false;
                return at.number;
            }
        }
        return NONE;
    }

    public int stale() {
        int number = 0;
        for (Node at : nodes) {
            if (at != null && at.stale) {
                number++;
            }
        }
        return number;
    }

    public boolean in(int group, int user) throws NoSuchElementException {
        requireGroup(group);
        requireUser(user);
        return isSet(groups.usersIn[group], user);
    }

    public int about(int node, int what) throws NoSuchElementException, IllegalArgumentException {
        Node at = nodeAt(node);
        switch (what) {
            case 0: return at.parent == null ? NONE : at.parent.number;
            case 1: return at.folder ? 1 : 0;
            case 2: return at.owner;
            case 3: return at.blocks ? 1 : 0;
            case 4: return at.depth();
            case 5: return at.entries.size();
            case 6: return childrenOf(at);
            case 7: return at.stale ? 1 : 0;
            default: throw new IllegalArgumentException("nothing to tell of a node");
        }
    }

    public int count(int what) throws IllegalArgumentException {
        switch (what) {
            case 0: return users;
            case 1: return groups.size;
            case 2: return countNodes();
            case 3: return countEntries();
            case 4: return groups.countMembers();
            default: throw new IllegalArgumentException("nothing to count");
        }
    }

    // ---- what decides

    /** The users who have a right at a node. */
    private long holders(Node node, int right) {
        long having = right == OWNERS_RIGHT ? 1L << node.owner : 0L;
        long decided = having;
        for (Node level = node; level != null; level = level.nextLevel()) {
            long denied = hitUsers(level, node, right, false);
            long allowed = hitUsers(level, node, right, true);
            having |= allowed & ~denied & ~decided;
            decided |= denied | allowed;
        }
        return having;
    }

    /** The users for whom an entry of one sort at this level reaches the node and matches. */
    private long hitUsers(Node level, Node node, int right, boolean allowing) {
        long hit = 0L;
        for (int position = 0; position < level.entries.size(); position++) {
            Entry entry = level.entries.get(position);
            if (entry.allows == allowing && entry.gives(right) && entry.reaches(level, node)) {
                hit |= namedUsers(entry);
            }
        }
        return hit;
    }

    /** The position of the entry at this level that decides for a user, or NONE. */
    private int decidingPosition(Node level, Node node, int user, int right) {
        int allowing = NONE;
        for (int position = 0; position < level.entries.size(); position++) {
            Entry entry = level.entries.get(position);
            if (entry.gives(right) && entry.reaches(level, node) && isSet(namedUsers(entry), user)) {
                if (!entry.allows) {
                    return position;
                }
                if (allowing == NONE) {
                    allowing = position;
                }
            }
        }
        return allowing;
    }

    private long namedUsers(Entry entry) {
        return entry.isGroup ? groups.usersIn[entry.whom] : 1L << entry.whom;
    }

    private static int fieldOf(int field, int sort, int node, int position) {
        if (field == FIELD_SORT) {
            return sort;
        }
        return field == FIELD_NODE ? node : position;
    }

    // ---- the tree

    private void markStaleBelow(Node top) {
        for (Node at : nodes) {
            if (at != null && at != top && at.liesWithin(top)) {
                at.stale = true;
            }
        }
    }

    /** How many levels the deepest node at or below this one lies below it. */
    private int heightOf(Node top) {
        int topDepth = top.depth();
        int height = 0;
        for (Node at : nodes) {
            if (at != null && at.liesWithin(top)) {
                height = Math.max(height, at.depth() - topDepth);
            }
        }
        return height;
    }

    private int childrenOf(Node parent) {
        int children = 0;
        for (Node at : nodes) {
            if (at != null && at.parent == parent) {
                children++;
            }
        }
        return children;
    }

    private int freeNumber() {
        for (int number = 0; number < MOST_NODES; number++) {
            if (nodes[number] == null) {
                return number;
            }
        }
        return NONE;
    }

    private int countNodes() {
        int found = 0;
        for (Node at : nodes) {
            if (at != null) {
                found++;
            }
        }
        return found;
    }

    private int countEntries() {
        int found = 0;
        for (Node at : nodes) {
            if (at != null) {
                found += at.entries.size();
            }
        }
        return found;
    }

    // ---- what a call asks of its arguments

    private Node nodeAt(int number) {
        if (number < 0 || number >= MOST_NODES || nodes[number] == null) {
            throw new NoSuchElementException("no such node");
        }
        return nodes[number];
    }

    private void requireUser(int user) {
        if (user < 0 || user >= users) {
            throw new NoSuchElementException("no such user");
        }
    }

    private void requireGroup(int group) {
        if (group < 0 || group >= groups.size) {
            throw new NoSuchElementException("no such group");
        }
    }

    private void requireUserOrGroup(int number, boolean isGroup) {
        if (isGroup) {
            requireGroup(number);
        } else {
            requireUser(number);
        }
    }

    private static void requireFolder(Node parent) {
        if (!parent.folder) {
            throw new IllegalArgumentException("the parent is a document");
        }
    }

    private static void requireNotRoot(Node node) {
        if (node.parent == null) {
            throw new IllegalArgumentException("it is the root");
        }
    }

    private static void requireRight(int right) {
        if (right < 0 || right >= RIGHTS) {
            throw new IllegalArgumentException("right is not 0 .. 7");
        }
    }

    private static void requirePlace(int k) {
        if (k < 0) {
            throw new IllegalArgumentException("k is below 0");
        }
    }

    private static boolean isSet(long bits, int number) {
        return (bits >>> number & 1L) != 0L;
    }

    private static final class Entry {
        final boolean allows;
        final int whom;
        final boolean isGroup;
        final int rightBits;
        final int flags;

        Entry(boolean allows, int whom, boolean isGroup, int rightBits, int flags) {
            this.allows = allows;
            this.whom = whom;
            this.isGroup = isGroup;
            this.rightBits = rightBits;
            this.flags = flags;
        }

        boolean gives(int right) {
            return isSet(rightBits, right);
        }

        /** Whether this entry, held by one node, reaches another that is the holder or lies below it. */
        boolean reaches(Node holder, Node node) {
            if (node == holder) {
                return (flags & HERE) != 0;
            }
            int kind = node.folder ? FOLDERS : DOCUMENTS;
            return (flags & kind) != 0 && ((flags & NEXT) == 0 || node.parent == holder);
        }
    }

    private static final class Node {
        final int number;
        final boolean folder;
        final ArrayList<Entry> entries;
        Node parent;
        int owner;
        boolean blocks;
        boolean stale;

        Node(int number, Node parent, boolean folder, int owner) {
            this.number = number;
            this.parent = parent;
            this.folder = folder;
            this.owner = owner;
            entries = new ArrayList<>();
            stale = true;
        }

        /** The node above whose entries may decide when this one's do not; null if there is none. */
        Node nextLevel() {
            return blocks ? null : parent;
        }

        int depth() {
            int depth = 0;
            for (Node above = parent; above != null; above = above.parent) {
                depth++;
            }
            return depth;
        }

        /** Whether this is the other node or lies below it. */
        boolean liesWithin(Node top) {
            for (Node at = this; at != null; at = at.parent) {
                if (at == top) {
                    return true;
                }
            }
            return false;
        }
    }

    private static final class Groups {
        int size;
        final long[] userMembers;
        final long[] groupMembers;
        final long[] groupsIn;
        final long[] usersIn;

        Groups() {
            userMembers = new long[MOST_GROUPS];
            groupMembers = new long[MOST_GROUPS];
            groupsIn = new long[MOST_GROUPS];
            usersIn = new long[MOST_GROUPS];
        }

        boolean hasMember(int group, int member, boolean isGroup) {
            return isSet(isGroup ? groupMembers[group] : userMembers[group], member);
        }

        boolean wouldHoldItself(int group, int member) {
            return group == member || isSet(groupsIn[member], group);
        }

        /** One that is no member becomes one; a member ceases to be one. */
        void turnMember(int group, int member, boolean isGroup) {
            long[] members = isGroup ? groupMembers : userMembers;
            members[group] ^= 1L << member;
            findGroupsIn();
            findUsersIn();
        }

        int countMembers() {
            int members = 0;
            for (int group = 0; group < size; group++) {
                members += Long.bitCount(userMembers[group]) + Long.bitCount(groupMembers[group]);
            }
            return members;
        }

        /** After the round of a group, every way that leads through it and those before it is known. */
        private void findGroupsIn() {
            for (int group = 0; group < size; group++) {
                groupsIn[group] = groupMembers[group];
            }
            for (int through = 0; through < size; through++) {
                for (int group = 0; group < size; group++) {
                    if (isSet(groupsIn[group], through)) {
                        groupsIn[group] |= groupsIn[through];
                    }
                }
            }
        }

        private void findUsersIn() {
            for (int group = 0; group < size; group++) {
                usersIn[group] = userMembers[group];
                for (int inner = 0; inner < size; inner++) {
                    if (isSet(groupsIn[group], inner)) {
                        usersIn[group] |= userMembers[inner];
                    }
                }
            }
        }
    }
}
