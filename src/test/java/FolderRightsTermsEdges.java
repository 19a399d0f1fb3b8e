import java.util.List;

/** One method for each sentence under the document's "Terms" that names a boundary case. */
public final class FolderRightsTermsEdges {
    private static final int NONE = FolderRights.NONE;
    private static final int ALL_BELOW = Edges.FOLDERS | Edges.DOCUMENTS;
    private static final int EVERYWHERE = Edges.HERE | ALL_BELOW;

    public static void main(String[] args) {
        users();
        groups();
        neverItself();
        inAGroup();
        inFullAndEmptyGroups();
        nodes();
        rootAndParents();
        depth();
        owner();
        entries();
        rightsAsBits();
        flagsAsBits();
        nextLevelOnly();
        reachesHere();
        reachesBelow();
        matches();
        ownerHasRight7();
        fromTheNodeUpToTheRoot();
        upToTheFirstThatBlocks();
        firstThatDeniesElseFirstThatAllows();
        noneDecides();
        staleAtFirst();
        staleByEntries();
        staleByBlocking();
        staleByMoving();
        exactWhileStale();
        renewedByLooking();
        renewedByNothingElse();
        missingBeforeArgument();
        argumentBeforeState();
        changesNothing();
        Edges.end();
    }

    // ---- users and groups

    private static void users() {
        Edges.sentence("USERS are 0, 1, .. , at most 60");
        FolderRights x = Edges.people(60, 1);
        for (int user = 0; user < 60; user++) {
            int number = user;
            Edges.due("user " + user, user == 0 ? 128 : 0, x, y -> y.rights(number, 0));
            Edges.due("user joins " + user, true, x, y -> y.join(0, number, false));
        }
        Edges.refusedOutside("user", Edges.MISSING, 0, 59, () -> Edges.people(60, 1), (y, n) -> y.rights(n, 0));
        Edges.refused("a 61st", Edges.STATE, () -> Edges.people(60, 1), y -> y.user());
    }

    private static void groups() {
        Edges.sentence("GROUPS 0, 1, .. , at most 24");
        FolderRights x = Edges.people(1, 24);
        for (int group = 0; group < 24; group++) {
            int number = group;
            Edges.due("group " + group, false, x, y -> y.in(number, 0));
            Edges.due("joined group " + group, true, x, y -> y.join(number, 0, false) && y.in(number, 0));
        }
        Edges.refusedOutside("group", Edges.MISSING, 0, 23, () -> Edges.people(1, 24), (y, n) -> y.in(n, 0));
        Edges.refused("a 25th", Edges.STATE, () -> Edges.people(1, 24), y -> y.group());
    }

    private static void neverItself() {
        Edges.sentence("a group has MEMBERS, users and other groups, never itself by any way");
        for (int inner = 0; inner < 24; inner++) {
            int from = inner;
            Edges.refused("by a way through " + inner, Edges.STATE,
                () -> Edges.nested(1, 24), y -> y.join(from, 0, true));
        }
        FolderRights x = Edges.nested(1, 24);
        for (int inner = 2; inner < 24; inner++) {
            int to = inner;
            Edges.due("downwards to " + inner, true, x, y -> y.join(0, to, true));
        }
        FolderRights cut = Edges.nested(1, 24);
        cut.leave(11, 12, true);
        Edges.due("the last holds the first, the way being cut", true, cut, y -> y.join(23, 0, true));
        Edges.due("now the cut would close it", Edges.STATE, cut, y -> y.join(11, 12, true));
    }

    private static void inAGroup() {
        Edges.sentence("A user is IN a group that has it as a member, or has a group as a member in which it is.");
        FolderRights x = Edges.nested(3, 24);
        x.join(23, 1, false);
        x.join(0, 2, false);
        for (int group = 0; group < 24; group++) {
            int number = group;
            Edges.due("innermost member in " + group, true, x, y -> y.in(number, 1));
            Edges.due("outermost member in " + group, group == 0, x, y -> y.in(number, 2));
            Edges.due("no member in " + group, false, x, y -> y.in(number, 0));
        }
        FolderRights turned = Edges.people(2, 24);
        for (int group = 23; group > 0; group--) {
            turned.join(group, group - 1, true);
        }
        turned.join(0, 1, false);
        for (int group = 0; group < 24; group++) {
            int number = group;
            Edges.due("member of group 0 in " + group, true, turned, y -> y.in(number, 1));
        }
    }

    private static void inFullAndEmptyGroups() {
        Edges.sentence("A user is IN a group: the empty and the full one");
        FolderRights x = Edges.people(60, 24);
        for (int user = 0; user < 60; user++) {
            x.join(23, user, false);
        }
        for (int group = 1; group < 24; group++) {
            x.join(0, group, true);
        }
        Edges.due("members of all", 83, x, y -> y.count(4));
        for (int user = 0; user < 60; user++) {
            int number = user;
            Edges.due("in the full one, " + user, true, x, y -> y.in(23, number));
            Edges.due("in by the full one, " + user, true, x, y -> y.in(0, number));
            Edges.due("in an empty one, " + user, false, x, y -> y.in(22, number));
        }
    }

    // ---- nodes and entries

    private static void nodes() {
        Edges.sentence("NODES are 0, 1, .. , at most 150 at a time");
        FolderRights x = Edges.wide(150);
        for (int node = 0; node < 150; node++) {
            int number = node;
            Edges.due("node " + node, node == 0 ? NONE : 0, x, y -> y.about(number, 0));
        }
        Edges.refusedOutside("node", Edges.MISSING, 0, 149, () -> Edges.wide(150), (y, n) -> y.about(n, 0));
        Edges.refused("a 151st", Edges.STATE, () -> Edges.wide(150), y -> y.node(0, true, 0));
        FolderRights atATime = Edges.wide(150);
        for (int i = 0; i < 20; i++) {
            Edges.due("one goes", 0, atATime, y -> y.remove(149));
            Edges.due("another comes", 149, atATime, y -> y.node(0, true, 0));
        }
        Edges.due("and no more", Edges.STATE, atATime, y -> y.node(0, true, 0));
    }

    private static void rootAndParents() {
        Edges.sentence("Node 0, the root, is a folder; each other one has a PARENT, a folder.");
        FolderRights x = Edges.office();
        Edges.due("the root is a folder", 1, x, y -> y.about(0, 1));
        Edges.due("the root has no parent", NONE, x, y -> y.about(0, 0));
        int[] parents = {0, 1, 2, 0, 0};
        for (int node = 1; node <= 5; node++) {
            int number = node;
            Edges.due("parent of " + node, parents[node - 1], x, y -> y.about(number, 0));
        }
        Edges.refused("a document as parent of a new one", Edges.ARGUMENT, Edges::office, y -> y.node(4, false, 0));
        Edges.refused("a document as new parent", Edges.ARGUMENT, Edges::office, y -> y.move(5, 4));
    }

    private static void depth() {
        Edges.sentence("A node's DEPTH is 0 for the root, 1 more than its parent's else, at most 20.");
        FolderRights x = Edges.chain(20);
        for (int node = 0; node <= 20; node++) {
            int number = node;
            Edges.due("depth of " + node, node, x, y -> y.about(number, 4));
        }
        Edges.due("a document at 20", 20, x, y -> y.about(y.node(19, false, 0), 4));
        Edges.refused("a folder at 21", Edges.STATE, () -> Edges.chain(20), y -> y.node(20, true, 0));
        Edges.refused("a document at 21", Edges.STATE, () -> Edges.chain(20), y -> y.node(20, false, 0));
        Edges.refused("one that would come to 21", Edges.STATE, FolderRightsTermsEdges::chainWithSide,
            y -> y.move(21, 20));
        Edges.due("one that comes to 20", 20, chainWithSide(), y -> y.move(21, 19));
    }

    /** The chain 0 .. 20, and folder 21 in the root. */
    private static FolderRights chainWithSide() {
        FolderRights x = Edges.chain(20);
        x.node(0, true, 0);
        return x;
    }

    private static void owner() {
        Edges.sentence("Each has an OWNER, a user");
        FolderRights x = Edges.people(60, 0);
        Edges.due("the last user owns a new node", 59, x, y -> y.about(y.node(0, true, 59), 2));
        Edges.due("the first user owns a new node", 0, x, y -> y.about(y.node(0, true, 0), 2));
        Edges.due("the last user owns the root", 59, x, y -> {
            y.owner(0, 59);
            return y.about(0, 2);
        });
        Edges.refusedOutside("an owner who is no user, of a new node", Edges.MISSING, 0, 4, Edges::office,
            (y, n) -> y.node(0, true, n));
        Edges.refusedOutside("an owner who is no user", Edges.MISSING, 0, 4, Edges::office,
            (y, n) -> y.owner(0, n));
    }

    private static void entries() {
        Edges.sentence("up to twelve ENTRIES 0, 1, .. in an order");
        FolderRights x = Edges.people(2, 0);
        for (int position = 0; position < 12; position++) {
            int number = position;
            Edges.due("entry " + position, position + 1, x, y -> y.entry(0, number, true, 1, false, 1, Edges.HERE));
        }
        Edges.due("twelve", 12, x, y -> y.about(0, 5));
        Edges.refused("a 13th at the end", Edges.STATE, FolderRightsTermsEdges::twelveEntries,
            y -> y.entry(0, 12, true, 1, false, 2, Edges.HERE));
        Edges.refused("a 13th at the start", Edges.STATE, FolderRightsTermsEdges::twelveEntries,
            y -> y.entry(0, 0, false, 1, false, 1, Edges.HERE));
        for (int left = 12; left > 0; left--) {
            int position = left - 1;
            Edges.due("one is first", 0, x, y -> y.explain(1, 0, 0, 2));
            Edges.due("one goes", position, x, y -> y.dropEntry(0, position));
        }
        Edges.due("none is left", 3, x, y -> y.explain(1, 0, 0, 0));
    }

    private static FolderRights twelveEntries() {
        FolderRights x = Edges.withEntries(Edges.people(2, 0), 0, 12);
        x.node(0, true, 0);
        return x;
    }

    private static void rightsAsBits() {
        Edges.sentence("RIGHTS as bits 0 .. 7");
        for (int given = 0; given < 8; given++) {
            FolderRights x = Edges.people(2, 0);
            x.entry(0, 0, true, 1, false, 1 << given, Edges.HERE);
            Edges.due("right " + given + " alone", 1 << given, x, y -> y.rights(1, 0));
            for (int asked = 0; asked < 8; asked++) {
                int right = asked;
                Edges.due("right " + given + ", asked for " + asked, asked == given ? 1 : 3, x,
                    y -> y.explain(1, 0, right, 0));
            }
            FolderRights denied = Edges.people(2, 0);
            denied.entry(0, 0, true, 1, false, 255, Edges.HERE);
            denied.entry(0, 1, false, 1, false, 1 << given, Edges.HERE);
            Edges.due("all but right " + given, 255 - (1 << given), denied, y -> y.rights(1, 0));
        }
    }

    // ---- what an entry reaches and matches

    /**
     * Folder 1 in the root; in 1 folder 2 and document 3; in 2 folder 4 and document 5; in 4
     * document 6; in the root, beside 1, document 7.
     */
    private static FolderRights levels() {
        FolderRights x = Edges.people(2, 0);
        x.node(0, true, 0);
        x.node(1, true, 0);
        x.node(1, false, 0);
        x.node(2, true, 0);
        x.node(2, false, 0);
        x.node(4, false, 0);
        x.node(0, false, 0);
        return x;
    }

    /** Which of the nodes of levels() an entry at folder 1 with these flags reaches. */
    private static void dueReach(int flags, List<Integer> reached) {
        FolderRights x = levels();
        x.entry(1, 0, true, 1, false, 1, flags);
        for (int node = 0; node < 8; node++) {
            int number = node;
            Edges.due("flags " + flags + " at node " + node, reached.contains(node) ? 1 : 0, x,
                y -> y.rights(1, number));
        }
    }

    private static void flagsAsBits() {
        Edges.sentence("FLAGS as bits: 1 HERE, 2 FOLDERS below, 4 DOCUMENTS below");
        dueReach(1, List.of(1));
        dueReach(2, List.of(2, 4));
        dueReach(3, List.of(1, 2, 4));
        dueReach(4, List.of(3, 5, 6));
        dueReach(5, List.of(1, 3, 5, 6));
        dueReach(6, List.of(2, 3, 4, 5, 6));
        dueReach(7, List.of(1, 2, 3, 4, 5, 6));
    }

    private static void nextLevelOnly() {
        Edges.sentence("8 only the NEXT level (children alone, of what 2 and 4 tell)");
        dueReach(9, List.of(1));
        dueReach(10, List.of(2));
        dueReach(11, List.of(1, 2));
        dueReach(12, List.of(3));
        dueReach(13, List.of(1, 3));
        dueReach(14, List.of(2, 3));
        dueReach(15, List.of(1, 2, 3));
        FolderRights x = levels();
        x.entry(1, 0, true, 1, false, 1, Edges.FOLDERS | Edges.NEXT);
        x.move(4, 1);
        Edges.due("one that has become a child", 1, x, y -> y.rights(1, 4));
        x.move(2, 4);
        Edges.due("one that is a child no more", 0, x, y -> y.rights(1, 2));
    }

    private static void reachesHere() {
        Edges.sentence("AN ENTRY of a node REACHES this node if it has HERE");
        for (int flags = 1; flags < 16; flags++) {
            if (flags == Edges.NEXT) {
                continue;
            }
            FolderRights x = levels();
            for (int node : new int[] {0, 1, 6}) {
                int number = node;
                x.entry(node, 0, true, 1, false, 1, flags);
                Edges.due("flags " + flags + " of node " + node, (flags & 1) == 1 ? 1 : 3, x, y -> {
                    y.block(number, true);
                    return y.explain(1, number, 0, 0);
                });
            }
        }
    }

    private static void reachesBelow() {
        Edges.sentence("a node below it, if that is a folder and it has FOLDERS, or a document and it has DOCUMENTS");
        FolderRights folders = Edges.chain(20);
        folders.entry(0, 0, true, 1, false, 1, Edges.FOLDERS);
        folders.entry(0, 0, true, 1, false, 2, Edges.DOCUMENTS);
        for (int depth = 0; depth <= 20; depth++) {
            int number = depth;
            Edges.due("folder at depth " + depth, depth == 0 ? 0 : 1, folders, y -> y.rights(1, number));
        }
        for (int depth = 1; depth <= 20; depth++) {
            int document = folders.node(depth - 1, false, 0);
            Edges.due("document at depth " + depth, 2, folders, y -> y.rights(1, document));
        }
        FolderRights aside = levels();
        aside.entry(2, 0, true, 1, false, 1, EVERYWHERE);
        for (int node : new int[] {0, 1, 3, 7}) {
            Edges.due("not above or beside, " + node, 0, aside, y -> y.rights(1, node));
        }
    }

    private static void matches() {
        Edges.sentence("It MATCHES a user and a right, if it names that user, or a group in which the user is,"
            + " and has that right.");
        FolderRights x = Edges.people(60, 24);
        x.entry(0, 0, true, 59, false, 1, Edges.HERE);
        x.entry(0, 1, true, 0, false, 2, Edges.HERE);
        x.entry(0, 2, true, 23, true, 4, Edges.HERE);
        x.entry(0, 3, true, 0, true, 8, Edges.HERE);
        Edges.due("the last user is named", 1, x, y -> y.rights(59, 0));
        Edges.due("the first user is named", 2 | 128, x, y -> y.rights(0, 0));
        Edges.due("a user with the group's number", 0, x, y -> y.rights(23, 0));
        x.join(23, 59, false);
        Edges.due("the last user in the last group", 1 | 4, x, y -> y.rights(59, 0));
        x.join(0, 23, true);
        Edges.due("and by it in the first", 1 | 4 | 8, x, y -> y.rights(59, 0));
        Edges.due("another user is in neither", 0, x, y -> y.rights(58, 0));
        x.leave(23, 59, false);
        Edges.due("in neither any more", 1, x, y -> y.rights(59, 0));
        x.join(0, 0, false);
        Edges.due("the first user in the first group", 2 | 8 | 128, x, y -> y.rights(0, 0));
    }

    // ---- what decides

    private static void ownerHasRight7() {
        Edges.sentence("for right 7 the owner has it");
        FolderRights x = Edges.chain(2);
        x.entry(2, 0, false, 0, false, 255, Edges.HERE);
        x.block(2, true);
        Edges.due("right 7 alone, against an entry that denies", 128, x, y -> y.rights(0, 2));
        Edges.due("right 6 is decided by the entry", 2, x, y -> y.explain(0, 2, 6, 0));
        Edges.due("right 7 is decided by the owner", 0, x, y -> y.explain(0, 2, 7, 0));
        Edges.due("the owner of the parent is not the owner", 0, x, y -> {
            y.owner(1, 1);
            return y.rights(1, 2);
        });
        Edges.due("the new owner has it", 128, x, y -> {
            y.owner(2, 1);
            return y.rights(1, 2);
        });
        Edges.due("the old owner has it no more", 0, x, y -> y.rights(0, 2));
    }

    private static void fromTheNodeUpToTheRoot() {
        Edges.sentence("Else from the node itself on, then at its parent, and so on up to the root");
        FolderRights x = Edges.chain(20);
        for (int depth = 0; depth <= 20; depth++) {
            int number = depth;
            boolean allows = depth % 2 == 0;
            x.entry(depth, 0, allows, 1, false, 128, EVERYWHERE);
            Edges.due("decided at depth " + depth, number, x, y -> y.explain(1, 20, 7, 1));
            Edges.due("answer from depth " + depth, allows ? 128 : 0, x, y -> y.rights(1, 20));
        }
        for (int depth = 20; depth > 0; depth--) {
            int number = depth;
            x.dropEntry(depth, 0);
            Edges.due("decided above depth " + depth, number - 1, x, y -> y.explain(1, 20, 7, 1));
        }
    }

    private static void upToTheFirstThatBlocks() {
        Edges.sentence("or up to the first one that BLOCKS (that one too)");
        for (int depth = 0; depth <= 20; depth++) {
            FolderRights x = Edges.chain(20);
            int blocking = depth;
            x.entry(blocking, 0, true, 1, false, 1, EVERYWHERE);
            if (blocking > 0) {
                x.entry(blocking - 1, 0, true, 1, false, 2, EVERYWHERE);
            }
            Edges.due("none blocks, " + depth, depth > 0 ? 3 : 1, x, y -> y.rights(1, 20));
            x.block(blocking, true);
            Edges.due("blocked at depth " + depth, 1, x, y -> y.rights(1, 20));
            Edges.due("blocked at the node, " + depth, 1, x, y -> y.rights(1, blocking));
            x.block(0, true);
            Edges.due("the first one, the root blocking too, " + depth, 1, x, y -> y.rights(1, 20));
            x.block(blocking, false);
            Edges.due("it ceased to block, " + depth, depth > 0 ? 3 : 1, x, y -> y.rights(1, 20));
        }
    }

    private static void firstThatDeniesElseFirstThatAllows() {
        Edges.sentence("the first one that denies, if there is one, else the first one that allows");
        FolderRights x = Edges.withEntries(Edges.people(2, 0), 0, 12);
        Edges.due("twelve allow: the first", 0, x, y -> y.explain(1, 0, 0, 2));
        for (int position = 11; position >= 0; position--) {
            int number = position;
            x.dropEntry(0, position);
            x.entry(0, position, false, 1, false, 1, Edges.HERE);
            Edges.due("the first that denies is " + position, number, x, y -> y.explain(1, 0, 0, 2));
            Edges.due("it denies, " + position, 2, x, y -> y.explain(1, 0, 0, 0));
            Edges.due("the answer is no, " + position, 0, x, y -> y.rights(1, 0));
        }
        FolderRights last = Edges.people(2, 0);
        for (int position = 0; position < 11; position++) {
            last.entry(0, position, false, 1, false, 2, Edges.HERE);
        }
        last.entry(0, 11, true, 1, false, 1, Edges.HERE);
        Edges.due("the only one that matches is the last", 11, last, y -> y.explain(1, 0, 0, 2));
    }

    private static void noneDecides() {
        Edges.sentence("If none anywhere does, the answer is no.");
        FolderRights x = Edges.chain(20);
        Edges.due("without an entry", 0, x, y -> y.rights(1, 20));
        x.entry(0, 0, true, 1, false, 1, Edges.HERE);
        x.entry(19, 0, true, 1, false, 2, Edges.DOCUMENTS);
        x.entry(18, 0, true, 1, false, 4, Edges.FOLDERS | Edges.NEXT);
        x.entry(20, 0, true, 0, false, 8, Edges.HERE);
        Edges.due("with entries that do not reach or match", 0, x, y -> y.rights(1, 20));
        Edges.due("by none", 3, x, y -> y.explain(1, 20, 0, 0));
    }

    // ---- spreading

    private static void staleAtFirst() {
        Edges.sentence("what a node inherits is kept with it, and is STALE at first");
        FolderRights x = new FolderRights();
        Edges.due("the root of a new object", List.of(0), x, y -> Edges.staleOnes(y));
        Edges.renewed(x);
        x.node(0, true, 0);
        Edges.due("a new node, and it alone", List.of(1), x, y -> Edges.staleOnes(y));
        Edges.renewed(x);
        x.remove(1);
        x.node(0, false, 0);
        Edges.due("a new node of a number that was there", List.of(1), x, y -> Edges.staleOnes(y));
        Edges.due("150 new ones", 150, Edges.wide(150), y -> y.stale());
    }

    private static void staleByEntries() {
        Edges.sentence("whenever an entry of a node above it came or went");
        for (int depth = 0; depth <= 20; depth++) {
            int number = depth;
            FolderRights x = Edges.renewed(Edges.chain(20));
            x.entry(number, 0, true, 1, false, 1, Edges.HERE);
            Edges.due("came at depth " + depth, Edges.numbers(depth + 1, 20), x, y -> Edges.staleOnes(y));
            Edges.renewed(x);
            x.dropEntry(number, 0);
            Edges.due("went at depth " + depth, Edges.numbers(depth + 1, 20), x, y -> Edges.staleOnes(y));
        }
        FolderRights office = Edges.renewed(Edges.office());
        office.entry(1, 0, true, 1, false, 1, Edges.HERE);
        Edges.due("not beside or above", List.of(2, 3), office, y -> Edges.staleOnes(y));
    }

    private static void staleByBlocking() {
        Edges.sentence("it or one of these came to block or ceased to");
        for (int depth = 0; depth <= 20; depth++) {
            int number = depth;
            FolderRights x = Edges.renewed(Edges.chain(20));
            x.block(number, true);
            Edges.due("came to at depth " + depth, Edges.numbers(depth, 20), x, y -> Edges.staleOnes(y));
            Edges.renewed(x);
            x.block(number, false);
            Edges.due("ceased to at depth " + depth, Edges.numbers(depth, 20), x, y -> Edges.staleOnes(y));
        }
        FolderRights office = Edges.renewed(Edges.office());
        office.block(1, true);
        Edges.due("not beside or above", List.of(1, 2, 3), office, y -> Edges.staleOnes(y));
    }

    private static void staleByMoving() {
        Edges.sentence("or it or one of these was moved");
        for (int depth = 1; depth <= 20; depth++) {
            int number = depth;
            FolderRights x = Edges.renewed(Edges.chain(20));
            x.move(number, 0);
            Edges.due("moved at depth " + depth, Edges.numbers(depth, 20), x, y -> Edges.staleOnes(y));
        }
        FolderRights office = Edges.renewed(Edges.office());
        office.move(2, 5);
        Edges.due("not where it was or came to", List.of(2, 3), office, y -> Edges.staleOnes(y));
    }

    private static void exactWhileStale() {
        Edges.sentence("answers are exact while what is inherited is still being spread");
        FolderRights x = Edges.renewed(Edges.chain(20));
        x.entry(0, 0, true, 1, false, 1, EVERYWHERE);
        Edges.due("at the deepest, all above being stale", 1, x, y -> y.rights(1, 20));
        x.block(10, true);
        Edges.due("blocked between", 0, x, y -> y.rights(1, 20));
        x.move(20, 9);
        Edges.due("moved above what blocks", 1, x, y -> y.rights(1, 20));
        x.dropEntry(0, 0);
        Edges.due("the entry went", 0, x, y -> y.rights(1, 20));
        FolderRights members = Edges.people(2, 1);
        members.entry(0, 0, true, 0, true, 1, Edges.HERE);
        Edges.due("before the user joins", 0, members, y -> y.rights(1, 0));
        members.join(0, 1, false);
        Edges.due("a join makes nothing stale", 0, members, y -> y.stale());
        Edges.due("and is seen at once", 1, members, y -> y.rights(1, 0));
    }

    private static void renewedByLooking() {
        Edges.sentence("It is renewed when rights(), explain(), who(), where() or same() look at that node, or by step()");
        dueRenewed("rights", List.of(0, 1, 2, 4), y -> y.rights(1, 3));
        dueRenewed("explain", List.of(0, 1, 2, 4), y -> y.explain(1, 3, 0, 0));
        dueRenewed("who", List.of(0, 1, 2, 4), y -> y.who(3, 0, 0));
        dueRenewed("where, the first", List.of(1, 2, 3, 4), y -> y.where(0, 7, 0));
        dueRenewed("where, the last", List.of(), y -> y.where(0, 7, 4));
        dueRenewed("where, fewer", List.of(), y -> y.where(0, 7, 5));
        dueRenewed("same, one and other", List.of(0, 2, 4), y -> y.same(1, 3));
        dueRenewed("same, twice the same", List.of(0, 1, 2, 4), y -> y.same(3, 3));
        dueRenewed("step", List.of(1, 2, 3, 4), y -> y.step());
    }

    private static void dueRenewed(String what, List<Integer> stillStale, Edges.Call call) {
        FolderRights x = Edges.chain(4);
        call.on(x);
        Edges.due(what, stillStale, x, y -> Edges.staleOnes(y));
    }

    private static void renewedByNothingElse() {
        Edges.sentence("It is renewed by these alone, and stale by those alone");
        List<Edges.Call> others = List.of(
            y -> y.user(), y -> y.group(), y -> y.join(2, 0, false), y -> y.join(2, 1, true),
            y -> y.leave(0, 3, false), y -> y.leave(0, 1, true), y -> y.owner(1, 2), y -> y.block(2, true),
            y -> y.block(1, false), y -> y.stale(), y -> y.in(0, 2), y -> y.about(1, 5), y -> y.about(0, 7),
            y -> y.count(3));
        for (int i = 0; i < others.size(); i++) {
            FolderRights x = Edges.office();
            others.get(i).on(x);
            Edges.due("call " + i + " as it was", List.of(0, 2, 4, 5), x, y -> Edges.staleOnes(y));
            FolderRights fresh = Edges.renewed(Edges.office());
            others.get(i).on(fresh);
            Edges.due("call " + i + " nothing is stale", List.of(), fresh, y -> Edges.staleOnes(y));
        }
        FolderRights removed = Edges.renewed(Edges.office());
        removed.remove(3);
        Edges.due("remove", List.of(), removed, y -> Edges.staleOnes(y));
    }

    // ---- exceptions

    private static void missingBeforeArgument() {
        Edges.sentence("NoSuchElementException: there is no such user, group, node or entry."
            + " IllegalArgumentException, then ..");
        Edges.refused("node, a document, no owner", Edges.MISSING, Edges::office, y -> y.node(4, true, 5));
        Edges.refused("move, the root, no parent", Edges.MISSING, Edges::office, y -> y.move(0, 6));
        Edges.refused("move, no node, a document", Edges.MISSING, Edges::office, y -> y.move(6, 4));
        Edges.refused("entry, all wrong, no node", Edges.MISSING, Edges::office,
            y -> y.entry(6, -1, true, 0, false, 0, 0));
        Edges.refused("entry, all wrong, no user", Edges.MISSING, Edges::office,
            y -> y.entry(0, 3, true, 5, false, 256, 16));
        Edges.refused("entry, all wrong, no group", Edges.MISSING, Edges::office,
            y -> y.entry(0, 3, true, 3, true, 256, 8));
        Edges.refused("explain, no user", Edges.MISSING, Edges::office, y -> y.explain(5, 0, 8, 3));
        Edges.refused("explain, no node", Edges.MISSING, Edges::office, y -> y.explain(0, 6, -1, -1));
        Edges.refused("who, no node", Edges.MISSING, Edges::office, y -> y.who(6, 8, -1));
        Edges.refused("where, no user", Edges.MISSING, Edges::office, y -> y.where(5, 8, -1));
        Edges.refused("about, no node", Edges.MISSING, Edges::office, y -> y.about(6, 8));
    }

    private static void argumentBeforeState() {
        Edges.sentence("IllegalArgumentException, then IllegalStateException, as told.");
        Edges.refused("node, 150, a document", Edges.ARGUMENT, () -> Edges.wide(150), y -> y.node(1, true, 0));
        Edges.refused("node, 150, no parent", Edges.MISSING, () -> Edges.wide(150), y -> y.node(150, true, 0));
        Edges.refused("node, 150, no owner", Edges.MISSING, () -> Edges.wide(150), y -> y.node(0, true, 2));
        Edges.refused("node, too deep, no owner", Edges.MISSING, () -> Edges.chain(20), y -> y.node(20, true, 2));
        Edges.refused("node, too deep, a document", Edges.ARGUMENT, FolderRightsTermsEdges::deepDocument,
            y -> y.node(20, true, 0));
        Edges.refused("move, too deep, a document", Edges.ARGUMENT, FolderRightsTermsEdges::deepDocument,
            y -> y.move(21, 20));
        Edges.refused("move, too deep, below itself", Edges.ARGUMENT, () -> Edges.chain(20), y -> y.move(1, 20));
        Edges.refused("remove, the root, some below it", Edges.ARGUMENT, Edges::office, y -> y.remove(0));
        Edges.refused("entry, twelve, position 13", Edges.ARGUMENT, FolderRightsTermsEdges::twelveEntries,
            y -> y.entry(0, 13, true, 1, false, 1, Edges.HERE));
        Edges.refused("entry, twelve, no rights", Edges.ARGUMENT, FolderRightsTermsEdges::twelveEntries,
            y -> y.entry(0, 12, true, 1, false, 0, Edges.HERE));
        Edges.refused("entry, twelve, 8 alone", Edges.ARGUMENT, FolderRightsTermsEdges::twelveEntries,
            y -> y.entry(0, 12, true, 1, false, 1, Edges.NEXT));
        Edges.refused("entry, twelve, no user", Edges.MISSING, FolderRightsTermsEdges::twelveEntries,
            y -> y.entry(0, 12, true, 2, false, 1, Edges.HERE));
        Edges.refused("join, itself, no such group", Edges.MISSING, Edges::office, y -> y.join(3, 3, true));
    }

    /** Each refused call shows this for itself; here one after the other, on one object. */
    private static void changesNothing() {
        Edges.sentence("Such a call changes nothing.");
        List<Edges.Call> refused = List.of(
            y -> y.join(3, 0, false), y -> y.join(1, 0, true), y -> y.leave(0, 5, false),
            y -> y.node(6, true, 0), y -> y.node(4, true, 0),
            y -> y.move(6, 0), y -> y.move(1, 3), y -> y.move(0, 1),
            y -> y.remove(6), y -> y.remove(0), y -> y.remove(1),
            y -> y.entry(0, 0, false, 5, false, 255, EVERYWHERE), y -> y.entry(0, 3, false, 3, false, 255, EVERYWHERE),
            y -> y.entry(0, 0, false, 3, false, 256, EVERYWHERE), y -> y.entry(0, 0, false, 3, false, 255, Edges.NEXT),
            y -> y.dropEntry(0, 2), y -> y.block(6, true), y -> y.owner(0, 5), y -> y.rights(5, 0),
            y -> y.explain(0, 0, 8, 0), y -> y.who(0, 0, -1), y -> y.where(0, 0, -1), y -> y.same(0, 6),
            y -> y.in(0, 5), y -> y.about(0, 8), y -> y.count(5));
        Edges.refused("all of them", Edges.ARGUMENT, Edges::office, y -> {
            for (int i = 0; i < refused.size(); i++) {
                Edges.dueRefused("call " + i, y, refused.get(i));
            }
            return y.count(-1);
        });
    }

    /** A chain whose node at depth 20 is a document, and folder 21 in the root. */
    private static FolderRights deepDocument() {
        FolderRights x = Edges.chain(19);
        x.node(19, false, 0);
        x.node(0, true, 0);
        return x;
    }
}
