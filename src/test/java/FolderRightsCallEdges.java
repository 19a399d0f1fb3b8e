import java.util.List;

/** One method for each sentence under the document's promises 1 to 22 that names a boundary case. */
public final class FolderRightsCallEdges {
    private static final int NONE = FolderRights.NONE;
    private static final int EVERYWHERE = Edges.HERE | Edges.FOLDERS | Edges.DOCUMENTS;

    public static void main(String[] args) {
        promise1();
        promise2Numbers();
        promise2Full();
        promise3Numbers();
        promise3Full();
        promise4Already();
        promise4Missing();
        promise4HoldsItself();
        promise5WhetherItWasOne();
        promise5Missing();
        promise6LeastNumber();
        promise6WithoutEntriesOrBlock();
        promise6Missing();
        promise6ParentIsADocument();
        promise6FullOrTooDeep();
        promise7SameParent();
        promise7WithAllBelow();
        promise7Missing();
        promise7Arguments();
        promise7TooDeep();
        promise8HowMany();
        promise8Missing();
        promise8Root();
        promise8SomeNodeBelow();
        promise9OneNumberMore();
        promise9Missing();
        promise9Position();
        promise9Rights();
        promise9Flags();
        promise9Twelve();
        promise10OneNumberLess();
        promise10Missing();
        promise11OnlyAChange();
        promise11Missing();
        promise12WhoItWas();
        promise12Missing();
        promise13AsBits();
        promise13Missing();
        promise14Fields();
        promise14Missing();
        promise14Arguments();
        promise15Kth();
        promise15Missing();
        promise15Arguments();
        promise16Kth();
        promise16LooksUpToThatOne();
        promise16Missing();
        promise16Arguments();
        promise17AllUsers();
        promise17LooksAtBoth();
        promise17Missing();
        promise18LeastStale();
        promise18NoneIs();
        promise19HowMany();
        promise20Missing();
        promise21Fields();
        promise21Missing();
        promise21Arguments();
        promise22Counts();
        promise22Arguments();
        Edges.end();
    }

    // ---- 1 to 3: a new object, users, groups

    private static void promise1() {
        Edges.sentence("1: User 0, and the root, which they own; no groups, no entries.");
        FolderRights x = new FolderRights();
        Edges.due("owner", 0, x, y -> y.about(0, 2));
        Edges.due("the owner's right", 128, x, y -> y.rights(0, 0));
        Edges.due("groups", 0, x, y -> y.count(1));
        Edges.due("entries", 0, x, y -> y.about(0, 5));
        Edges.due("members", 0, x, y -> y.count(4));
        Edges.refusedOutside("user", Edges.MISSING, 0, 0, FolderRights::new, (y, n) -> y.rights(n, 0));
        Edges.refusedOutside("node", Edges.MISSING, 0, 0, FolderRights::new, (y, n) -> y.rights(0, n));
        Edges.refused("group 0", Edges.MISSING, FolderRights::new, y -> y.in(0, 0));
        Edges.refused("entry 0", Edges.MISSING, FolderRights::new, y -> y.dropEntry(0, 0));
    }

    private static void promise2Numbers() {
        Edges.sentence("2: A new user: the number.");
        FolderRights x = new FolderRights();
        for (int user = 1; user < 60; user++) {
            int number = user;
            Edges.due("not there yet, " + user, Edges.MISSING, x, y -> y.rights(number, 0));
            Edges.due("number " + user, number, x, y -> y.user());
            Edges.due("is there, " + user, 0, x, y -> y.rights(number, 0));
        }
    }

    private static void promise2Full() {
        Edges.sentence("2: IllegalStateException: there are 60.");
        Edges.due("with 59", 59, Edges.people(59, 0), y -> y.user());
        Edges.refused("with 60", Edges.STATE, () -> Edges.people(60, 0), y -> y.user());
    }

    private static void promise3Numbers() {
        Edges.sentence("3: A new group, without members: its number.");
        FolderRights x = Edges.people(2, 0);
        for (int group = 0; group < 24; group++) {
            int number = group;
            Edges.due("not there yet, " + group, Edges.MISSING, x, y -> y.in(number, 0));
            Edges.due("number " + group, number, x, y -> y.group());
            Edges.due("has no user, " + group, false, x, y -> y.in(number, 0) || y.in(number, 1));
            Edges.due("members of all, " + group, number, x, y -> y.count(4));
            x.join(group, 1, false);
        }
    }

    private static void promise3Full() {
        Edges.sentence("3: IllegalStateException: there are 24.");
        Edges.due("with 23", 23, Edges.people(1, 23), y -> y.group());
        Edges.refused("with 24", Edges.STATE, () -> Edges.people(1, 24), y -> y.group());
    }

    // ---- 4 and 5: members

    private static void promise4Already() {
        Edges.sentence("4: A user, or a group, becomes a member: false if it was already.");
        FolderRights x = Edges.people(60, 24);
        for (int user = 0; user < 60; user++) {
            int number = user;
            Edges.due("user " + user, true, x, y -> y.join(0, number, false));
        }
        for (int group = 1; group < 24; group++) {
            int number = group;
            Edges.due("group " + group, true, x, y -> y.join(0, number, true));
        }
        Edges.due("a full group's members", 83, x, y -> y.count(4));
        Edges.due("the first user was already", false, x, y -> y.join(0, 0, false));
        Edges.due("the last user was already", false, x, y -> y.join(0, 59, false));
        Edges.due("the first group was already", false, x, y -> y.join(0, 1, true));
        Edges.due("the last group was already", false, x, y -> y.join(0, 23, true));
        Edges.due("as many as before", 83, x, y -> y.count(4));
        Edges.due("in by a group, yet no member", true, Edges.office(), y -> y.join(0, 2, false));
    }

    private static void promise4Missing() {
        Edges.sentence("4: NoSuchElementException");
        Edges.due("the last group takes the last user", true, Edges.office(), y -> y.join(2, 4, false));
        Edges.due("the last group takes a group", true, Edges.office(), y -> y.join(2, 0, true));
        Edges.due("the last group is taken", true, Edges.office(), y -> y.join(0, 2, true));
        Edges.refusedOutside("group, for a user", Edges.MISSING, 0, 2, Edges::office, (y, n) -> y.join(n, 0, false));
        Edges.refusedOutside("group, for a group", Edges.MISSING, 0, 2, Edges::office, (y, n) -> y.join(n, 2, true));
        Edges.refusedOutside("user", Edges.MISSING, 0, 4, Edges::office, (y, n) -> y.join(2, n, false));
        Edges.refusedOutside("member group", Edges.MISSING, 0, 2, Edges::office, (y, n) -> y.join(0, n, true));
    }

    private static void promise4HoldsItself() {
        Edges.sentence("4: IllegalStateException: a group would hold itself.");
        Edges.refused("at once", Edges.STATE, Edges::office, y -> y.join(2, 2, true));
        Edges.refused("by one", Edges.STATE, Edges::office, y -> y.join(1, 0, true));
        Edges.refused("by 23", Edges.STATE, () -> Edges.nested(2, 24), y -> y.join(23, 0, true));
        Edges.due("a user of the group's number", true, Edges.office(), y -> y.join(2, 2, false));
        Edges.due("two ways to one group", true, Edges.nested(1, 24), y -> y.join(0, 23, true));
        FolderRights x = Edges.office();
        x.leave(0, 1, true);
        Edges.due("the other way round", true, x, y -> y.join(1, 0, true));
    }

    private static void promise5WhetherItWasOne() {
        Edges.sentence("5: A member goes: whether it was one.");
        FolderRights x = Edges.office();
        Edges.due("of an empty group, a user", false, x, y -> y.leave(2, 0, false));
        Edges.due("of an empty group, a group", false, x, y -> y.leave(2, 0, true));
        Edges.due("the group itself", false, x, y -> y.leave(0, 0, true));
        Edges.due("one who is in by a group alone", false, x, y -> y.leave(0, 2, false));
        Edges.due("a user of the member group's number", false, x, y -> y.leave(0, 1, false));
        Edges.due("a group of the member user's number", false, x, y -> y.leave(1, 2, true));
        Edges.due("nobody has gone", 3, x, y -> y.count(4));
        Edges.due("a user", true, x, y -> y.leave(0, 3, false));
        Edges.due("a group, the last member", true, x, y -> y.leave(0, 1, true));
        Edges.due("one has gone already", false, x, y -> y.leave(0, 3, false));
        Edges.due("one is left", 1, x, y -> y.count(4));
        FolderRights full = Edges.people(60, 24);
        full.join(23, 59, false);
        full.join(23, 22, true);
        Edges.due("the last user of the last group", true, full, y -> y.leave(23, 59, false));
        Edges.due("a group of the last group", true, full, y -> y.leave(23, 22, true));
        Edges.due("the last group is empty", 0, full, y -> y.count(4));
    }

    private static void promise5Missing() {
        Edges.sentence("5: NoSuchElementException.");
        Edges.due("the last user", false, Edges.office(), y -> y.leave(2, 4, false));
        Edges.due("the last group", false, Edges.office(), y -> y.leave(0, 2, true));
        Edges.refusedOutside("group, for a user", Edges.MISSING, 0, 2, Edges::office, (y, n) -> y.leave(n, 3, false));
        Edges.refusedOutside("group, for a group", Edges.MISSING, 0, 2, Edges::office, (y, n) -> y.leave(n, 1, true));
        Edges.refusedOutside("user", Edges.MISSING, 0, 4, Edges::office, (y, n) -> y.leave(0, n, false));
        Edges.refusedOutside("member group", Edges.MISSING, 0, 2, Edges::office, (y, n) -> y.leave(0, n, true));
    }

    // ---- 6 to 8: nodes

    private static void promise6LeastNumber() {
        Edges.sentence("6: the least number that is not there");
        FolderRights x = Edges.wide(150);
        for (int gone : new int[] {149, 1, 75, 148, 2}) {
            x.remove(gone);
        }
        for (int least : new int[] {1, 2, 75, 148, 149}) {
            Edges.due("gap " + least, least, x, y -> y.node(0, true, 0));
        }
        Edges.due("no gap is left", Edges.STATE, x, y -> y.node(0, true, 0));
    }

    private static void promise6WithoutEntriesOrBlock() {
        Edges.sentence("6: A new node, without entries, that does not block");
        FolderRights x = Edges.withEntries(Edges.chain(1), 1, 12);
        x.block(1, true);
        x.owner(1, 1);
        x.remove(1);
        Edges.due("the number of one that had twelve and blocked", 1, x, y -> y.node(0, false, 0));
        int[] told = {0, 0, 0, 0, 1, 0, 0, 1};
        for (int what = 0; what < 8; what++) {
            int asked = what;
            Edges.due("about " + what, told[what], x, y -> y.about(1, asked));
        }
        Edges.due("no entry 0", Edges.MISSING, x, y -> y.dropEntry(1, 0));
        Edges.due("twelve may come", 12, Edges.withEntries(x, 1, 11),
            y -> y.entry(1, 0, true, 1, false, 1, Edges.HERE));
    }

    private static void promise6Missing() {
        Edges.sentence("6: NoSuchElementException: parent or owner.");
        Edges.due("the last node and the last user", 6, Edges.office(), y -> y.node(5, true, 4));
        Edges.due("the first node and the first user", 6, Edges.office(), y -> y.node(0, true, 0));
        Edges.refusedOutside("parent", Edges.MISSING, 0, 5, Edges::office, (y, n) -> y.node(n, true, 0));
        Edges.refusedOutside("owner", Edges.MISSING, 0, 4, Edges::office, (y, n) -> y.node(0, false, n));
        Edges.refused("a parent that went", Edges.MISSING, FolderRightsCallEdges::officeWithGap,
            y -> y.node(4, true, 0));
        Edges.refusedOutside("parent of 150", Edges.MISSING, 0, 149, () -> Edges.wide(150),
            (y, n) -> y.node(n, true, 0));
    }

    /** The office without its document 4. */
    private static FolderRights officeWithGap() {
        FolderRights x = Edges.office();
        x.remove(4);
        return x;
    }

    private static void promise6ParentIsADocument() {
        Edges.sentence("6: IllegalArgumentException: the parent is a document.");
        Edges.refused("a document in a document", Edges.ARGUMENT, Edges::office, y -> y.node(3, false, 0));
        Edges.refused("a folder in a document", Edges.ARGUMENT, Edges::office, y -> y.node(4, true, 0));
        Edges.due("in an empty folder", 6, Edges.office(), y -> y.node(5, true, 0));
    }

    private static void promise6FullOrTooDeep() {
        Edges.sentence("6: IllegalStateException: there are 150, or it would be deeper than 20.");
        Edges.due("with 149", 149, Edges.wide(149), y -> y.node(0, true, 0));
        Edges.refused("with 150, a folder", Edges.STATE, () -> Edges.wide(150), y -> y.node(0, true, 0));
        Edges.refused("with 150, a document", Edges.STATE, () -> Edges.wide(150), y -> y.node(2, false, 0));
        Edges.due("at 20", 20, Edges.chain(19), y -> y.node(19, true, 0));
        Edges.refused("at 21, a folder", Edges.STATE, () -> Edges.chain(20), y -> y.node(20, true, 0));
        Edges.refused("at 21, a document", Edges.STATE, () -> Edges.chain(20), y -> y.node(20, false, 0));
        Edges.refused("at 21 after a move", Edges.STATE, FolderRightsCallEdges::movedTo20, y -> y.node(20, true, 0));
    }

    /** The chain 0 .. 18, and below it folder 19, that holds folder 20 and came there by a move. */
    private static FolderRights movedTo20() {
        FolderRights x = Edges.chain(18);
        x.node(0, true, 0);
        x.node(19, true, 0);
        x.move(19, 18);
        return x;
    }

    private static void promise7SameParent() {
        Edges.sentence("7: A node comes below another parent (or the same one: it counts as moved)");
        FolderRights x = Edges.renewed(Edges.office());
        Edges.due("the same one", 2, x, y -> y.move(2, 1));
        Edges.due("counts as moved", List.of(2, 3), x, y -> Edges.staleOnes(y));
        Edges.due("another one", 1, x, y -> y.move(2, 0));
        Edges.due("its parent", 0, x, y -> y.about(2, 0));
        Edges.due("its old parent is empty", 0, x, y -> y.about(1, 6));
        Edges.due("its new parent has one more", 4, x, y -> y.about(0, 6));
        Edges.due("the deepest stays where it is", 20, Edges.chain(20), y -> y.move(20, 19));
        Edges.due("all of the deepest stay where they are", 1, Edges.chain(20), y -> y.move(1, 0));
    }

    private static void promise7WithAllBelow() {
        Edges.sentence("7: with all below it: its depth");
        FolderRights x = Edges.chain(20);
        Edges.due("from 2 to 1", 1, x, y -> y.move(2, 0));
        for (int node = 2; node <= 20; node++) {
            int number = node;
            Edges.due("depth of " + node, node - 1, x, y -> y.about(number, 4));
        }
        Edges.due("the deepest to 1", 1, x, y -> y.move(20, 0));
        Edges.due("what was above it stays", 18, x, y -> y.about(19, 4));
        Edges.due("a node keeps its entries", 1, Edges.office(), y -> {
            y.move(3, 5);
            return y.about(3, 5);
        });
        Edges.due("a node keeps its block", 1, Edges.office(), y -> {
            y.move(2, 5);
            return y.about(2, 3);
        });
    }

    private static void promise7Missing() {
        Edges.sentence("7: NoSuchElementException");
        Edges.due("the last node", 2, Edges.office(), y -> y.move(5, 1));
        Edges.due("below the last node", 2, Edges.office(), y -> y.move(1, 5));
        Edges.refusedOutside("node", Edges.MISSING, 0, 5, Edges::office, (y, n) -> y.move(n, 0));
        Edges.refusedOutside("parent", Edges.MISSING, 0, 5, Edges::office, (y, n) -> y.move(1, n));
        Edges.refused("one that went", Edges.MISSING, FolderRightsCallEdges::officeWithGap, y -> y.move(4, 0));
        Edges.refused("below one that went", Edges.MISSING, FolderRightsCallEdges::officeWithGap, y -> y.move(1, 4));
        Edges.refusedOutside("of 150", Edges.MISSING, 0, 149, () -> Edges.wide(150), (y, n) -> y.move(n, 0));
    }

    private static void promise7Arguments() {
        Edges.sentence("7: IllegalArgumentException: it is the root, the parent is a document, or is it, or lies below it.");
        Edges.refused("the root", Edges.ARGUMENT, Edges::office, y -> y.move(0, 5));
        Edges.refused("the root into itself", Edges.ARGUMENT, Edges::office, y -> y.move(0, 0));
        Edges.refused("the root alone into itself", Edges.ARGUMENT, FolderRights::new, y -> y.move(0, 0));
        Edges.refused("into a document", Edges.ARGUMENT, Edges::office, y -> y.move(5, 4));
        Edges.refused("into a document below it", Edges.ARGUMENT, Edges::office, y -> y.move(1, 3));
        Edges.refused("a document into itself", Edges.ARGUMENT, Edges::office, y -> y.move(4, 4));
        Edges.refused("into itself", Edges.ARGUMENT, Edges::office, y -> y.move(5, 5));
        Edges.refused("into its child", Edges.ARGUMENT, Edges::office, y -> y.move(1, 2));
        Edges.refused("into the deepest below it", Edges.ARGUMENT, () -> Edges.chain(20), y -> y.move(1, 20));
        Edges.due("into its parent's parent", 1, Edges.office(), y -> y.move(2, 0));
        Edges.due("into one beside it", 2, Edges.office(), y -> y.move(1, 5));
    }

    private static void promise7TooDeep() {
        Edges.sentence("7: IllegalStateException: some node would be deeper than 20.");
        Edges.due("a node to 20", 20, sideChain(19, 1), y -> y.move(20, 19));
        Edges.refused("a node to 21", Edges.STATE, () -> sideChain(20, 1), y -> y.move(21, 20));
        Edges.due("a node with one below it", 19, sideChain(18, 2), y -> y.move(19, 18));
        Edges.refused("the one below it to 21", Edges.STATE, () -> sideChain(19, 2), y -> y.move(20, 19));
        Edges.due("one with nine below it", 11, sideChain(10, 10), y -> y.move(11, 10));
        Edges.refused("the ninth below it to 21", Edges.STATE, () -> sideChain(11, 10), y -> y.move(12, 11));
        Edges.due("all but the root, one level too deep", Edges.STATE, sideChain(20, 1), y -> y.move(1, 21));
        FolderRights x = sideChain(10, 9);
        int document = x.node(19, false, 0);
        Edges.due("a document below it to 20", 11, x, y -> y.move(11, 10));
        Edges.due("it is there", 20, x, y -> y.about(document, 4));
    }

    /** The chain 0 .. length, and a second one from the root: the numbers behind, side of them. */
    private static FolderRights sideChain(int length, int side) {
        FolderRights x = Edges.chain(length);
        int parent = 0;
        for (int i = 0; i < side; i++) {
            parent = x.node(parent, true, 0);
        }
        return x;
    }

    private static void promise8HowMany() {
        Edges.sentence("8: A node goes, with its entries: how many these were.");
        for (int entries = 0; entries <= 12; entries++) {
            FolderRights x = Edges.withEntries(Edges.withEntries(Edges.chain(1), 0, 3), 1, entries);
            Edges.due("with " + entries, entries, x, y -> y.remove(1));
            Edges.due("nodes after " + entries, 1, x, y -> y.count(2));
            Edges.due("entries after " + entries, 3, x, y -> y.count(3));
            Edges.due("it is not there, " + entries, Edges.MISSING, x, y -> y.about(1, 0));
        }
        FolderRights full = Edges.wide(150);
        Edges.due("the last of 150", 0, full, y -> y.remove(149));
        Edges.due("149 are left", 149, full, y -> y.count(2));
        Edges.due("a node that is stale goes", 149, full, y -> y.stale());
    }

    private static void promise8Missing() {
        Edges.sentence("8: NoSuchElementException");
        Edges.due("the last node", 0, Edges.office(), y -> y.remove(5));
        Edges.refusedOutside("node", Edges.MISSING, 0, 5, Edges::office, (y, n) -> y.remove(n));
        Edges.refused("one that went", Edges.MISSING, FolderRightsCallEdges::officeWithGap, y -> y.remove(4));
    }

    private static void promise8Root() {
        Edges.sentence("8: IllegalArgumentException: it is the root.");
        Edges.refused("with others", Edges.ARGUMENT, Edges::office, y -> y.remove(0));
        Edges.refused("alone", Edges.ARGUMENT, FolderRights::new, y -> y.remove(0));
    }

    private static void promise8SomeNodeBelow() {
        Edges.sentence("8: IllegalStateException: some node is below it.");
        Edges.refused("a folder", Edges.STATE, Edges::office, y -> y.remove(1));
        Edges.refused("a document", Edges.STATE, Edges::office, y -> y.remove(2));
        FolderRights x = Edges.chain(20);
        for (int node = 20; node > 1; node--) {
            int number = node;
            Edges.due("one is below " + (node - 1), Edges.STATE, x, y -> y.remove(number - 1));
            Edges.due("none is below " + node, 0, x, y -> y.remove(number));
        }
        FolderRights moved = Edges.office();
        moved.move(3, 5);
        Edges.due("the one below has moved away", 0, moved, y -> y.remove(2));
        Edges.due("where it came to", Edges.STATE, moved, y -> y.remove(5));
    }

    // ---- 9 and 10: entries

    /** Eight entries or fewer at the root, each allowing user 1 the right of its position. */
    private static FolderRights ordered(int entries) {
        FolderRights x = Edges.people(2, 0);
        for (int i = 0; i < entries; i++) {
            x.entry(0, i, true, 1, false, 1 << i, Edges.HERE);
        }
        return x;
    }

    private static void promise9OneNumberMore() {
        Edges.sentence("9: An entry comes in at a position, those from there on have one number more: how many there are.");
        for (int position = 0; position <= 7; position++) {
            int at = position;
            FolderRights x = ordered(7);
            Edges.due("how many, " + position, 8, x, y -> y.entry(0, at, true, 1, false, 128, Edges.HERE));
            Edges.due("the new one, " + position, at, x, y -> y.explain(1, 0, 7, 2));
            for (int before = 0; before < 7; before++) {
                int right = before;
                Edges.due("the one that was " + before + ", from " + position, before < at ? before : before + 1, x,
                    y -> y.explain(1, 0, right, 2));
            }
        }
    }

    private static void promise9Missing() {
        Edges.sentence("9: NoSuchElementException: node, or user or group.");
        Edges.due("the last node and user", 1, Edges.office(), y -> y.entry(5, 0, true, 4, false, 1, Edges.HERE));
        Edges.due("the last group", 1, Edges.office(), y -> y.entry(5, 0, true, 2, true, 1, Edges.HERE));
        Edges.refusedOutside("node", Edges.MISSING, 0, 5, Edges::office,
            (y, n) -> y.entry(n, 0, true, 0, false, 1, Edges.HERE));
        Edges.refusedOutside("user", Edges.MISSING, 0, 4, Edges::office,
            (y, n) -> y.entry(0, 0, true, n, false, 1, EVERYWHERE));
        Edges.refusedOutside("group", Edges.MISSING, 0, 2, Edges::office,
            (y, n) -> y.entry(0, 0, true, n, true, 1, EVERYWHERE));
        Edges.refused("node that went", Edges.MISSING, FolderRightsCallEdges::officeWithGap,
            y -> y.entry(4, 0, true, 0, false, 1, Edges.HERE));
    }

    private static void promise9Position() {
        Edges.sentence("9: IllegalArgumentException: position is not 0 .. the number of entries");
        for (int there : new int[] {0, 1, 6, 11}) {
            for (int position = 0; position <= there; position++) {
                int at = position;
                Edges.due(there + " there, at " + position, there + 1,
                    Edges.withEntries(Edges.chain(1), 0, there),
                    y -> y.entry(0, at, true, 1, false, 1, Edges.HERE));
            }
            Edges.refusedOutside(there + " there, at", Edges.ARGUMENT, 0, there,
                () -> Edges.withEntries(Edges.chain(1), 0, there),
                (y, n) -> y.entry(0, n, false, 1, false, 1, EVERYWHERE));
        }
    }

    private static void promise9Rights() {
        Edges.sentence("9: rights not 1 .. 255");
        for (int rights = 1; rights <= 255; rights++) {
            int bits = rights;
            FolderRights x = Edges.people(2, 0);
            Edges.due("rights " + rights, 1, x, y -> y.entry(0, 0, true, 1, false, bits, Edges.HERE));
            Edges.due("they are given, " + rights, bits, x, y -> y.rights(1, 0));
        }
        Edges.refusedOutside("rights", Edges.ARGUMENT, 1, 255, Edges::office,
            (y, n) -> y.entry(0, 0, true, 1, false, n, EVERYWHERE));
    }

    private static void promise9Flags() {
        Edges.sentence("9: or flags not 1 .. 15, or 8 alone");
        for (int flags = 1; flags <= 15; flags++) {
            int bits = flags;
            Edges.due("flags " + flags, flags == Edges.NEXT ? Edges.ARGUMENT : (Object) 1, Edges.people(2, 0),
                y -> y.entry(0, 0, true, 1, false, 1, bits));
        }
        Edges.refusedOutside("flags", Edges.ARGUMENT, 1, 15, Edges::office,
            (y, n) -> y.entry(0, 0, true, 1, false, 1, n));
        Edges.refused("8 alone", Edges.ARGUMENT, Edges::office, y -> y.entry(0, 0, true, 1, false, 1, 8));
    }

    private static void promise9Twelve() {
        Edges.sentence("9: IllegalStateException: there are twelve.");
        Edges.due("with eleven", 12, Edges.withEntries(Edges.chain(1), 0, 11),
            y -> y.entry(0, 11, true, 1, false, 1, Edges.HERE));
        for (int position : new int[] {0, 6, 11, 12}) {
            Edges.refused("with twelve, at " + position, Edges.STATE,
                () -> Edges.withEntries(Edges.chain(1), 0, 12),
                y -> y.entry(0, position, false, 1, false, 1, EVERYWHERE));
        }
        FolderRights x = Edges.withEntries(Edges.chain(1), 0, 12);
        Edges.due("another node has none", 1, x, y -> y.entry(1, 0, true, 1, false, 1, Edges.HERE));
        x.dropEntry(0, 0);
        Edges.due("one went, one comes", 12, x, y -> y.entry(0, 11, true, 1, false, 1, Edges.HERE));
    }

    private static void promise10OneNumberLess() {
        Edges.sentence("10: An entry goes, those behind it have one number less: how many there are.");
        for (int position = 0; position < 8; position++) {
            int gone = position;
            FolderRights x = ordered(8);
            Edges.due("how many, " + position, 7, x, y -> y.dropEntry(0, gone));
            for (int before = 0; before < 8; before++) {
                int right = before;
                int want = before < gone ? before : before == gone ? NONE : before - 1;
                Edges.due("the one that was " + before + ", without " + position, want, x,
                    y -> y.explain(1, 0, right, 2));
            }
        }
        FolderRights full = Edges.withEntries(Edges.people(2, 0), 0, 12);
        for (int left = 11; left >= 0; left--) {
            int due = left;
            Edges.due("left " + left, due, full, y -> y.dropEntry(0, due));
        }
    }

    private static void promise10Missing() {
        Edges.sentence("10: NoSuchElementException: node or entry.");
        Edges.due("the last entry", 1, Edges.office(), y -> y.dropEntry(0, 1));
        Edges.refusedOutside("entry of two", Edges.MISSING, 0, 1, Edges::office, (y, n) -> y.dropEntry(0, n));
        Edges.refusedOutside("entry of twelve", Edges.MISSING, 0, 11,
            () -> Edges.withEntries(Edges.chain(1), 0, 12), (y, n) -> y.dropEntry(0, n));
        Edges.refused("entry of none", Edges.MISSING, Edges::office, y -> y.dropEntry(2, 0));
        Edges.refused("entry below 0 of none", Edges.MISSING, Edges::office, y -> y.dropEntry(2, -1));
        Edges.refusedOutside("node", Edges.MISSING, 0, 5, Edges::office, (y, n) -> y.dropEntry(n, 0));
        Edges.refused("node that went", Edges.MISSING, FolderRightsCallEdges::officeWithGap, y -> y.dropEntry(4, 0));
    }

    // ---- 11 and 12: block, owner

    private static void promise11OnlyAChange() {
        Edges.sentence("11: A node blocks, or not: whether it did. (Only a change makes anything stale.)");
        for (int node : new int[] {0, 2, 4}) {
            FolderRights x = Edges.renewed(Edges.chain(4));
            dueBlocked("does not and shall not, " + node, x, node, false, false, List.of());
            dueBlocked("does not and shall, " + node, x, node, true, false, Edges.numbers(node, 4));
            dueBlocked("does and shall, " + node, x, node, true, true, List.of());
            dueBlocked("does and shall not, " + node, x, node, false, true, Edges.numbers(node, 4));
        }
    }

    private static void dueBlocked(
            String what, FolderRights x, int node, boolean shall, boolean did, List<Integer> stale) {
        Edges.due(what + ", whether it did", did, x, y -> y.block(node, shall));
        Edges.due(what + ", whether it does", shall ? 1 : 0, x, y -> y.about(node, 3));
        Edges.due(what + ", what is stale", stale, x, y -> Edges.staleOnes(y));
        Edges.renewed(x);
    }

    private static void promise11Missing() {
        Edges.sentence("11: NoSuchElementException.");
        Edges.due("the last node", false, Edges.office(), y -> y.block(5, true));
        Edges.due("a document", false, Edges.office(), y -> y.block(4, true));
        Edges.refusedOutside("node", Edges.MISSING, 0, 5, Edges::office, (y, n) -> y.block(n, true));
        Edges.refusedOutside("node, not", Edges.MISSING, 0, 5, Edges::office, (y, n) -> y.block(n, false));
        Edges.refused("one that went", Edges.MISSING, FolderRightsCallEdges::officeWithGap, y -> y.block(4, true));
    }

    private static void promise12WhoItWas() {
        Edges.sentence("12: A node's owner becomes this user: who it was.");
        FolderRights x = Edges.people(60, 0);
        Edges.due("the first", 0, x, y -> y.owner(0, 59));
        Edges.due("the last", 59, x, y -> y.owner(0, 59));
        Edges.due("the same once more", 59, x, y -> y.owner(0, 0));
        Edges.due("the first again", 0, x, y -> y.about(0, 2));
        Edges.due("the owner's right alone", 0, x, y -> y.rights(59, 0));
    }

    private static void promise12Missing() {
        Edges.sentence("12: NoSuchElementException.");
        Edges.due("the last node and user", 4, Edges.office(), y -> y.owner(5, 4));
        Edges.refusedOutside("node", Edges.MISSING, 0, 5, Edges::office, (y, n) -> y.owner(n, 1));
        Edges.refusedOutside("user", Edges.MISSING, 0, 4, Edges::office, (y, n) -> y.owner(0, n));
        Edges.refused("one that went", Edges.MISSING, FolderRightsCallEdges::officeWithGap, y -> y.owner(4, 1));
    }

    // ---- 13 and 14: rights, explain

    private static void promise13AsBits() {
        Edges.sentence("13: The rights of a user at a node, as bits.");
        FolderRights x = Edges.chain(20);
        Edges.due("none", 0, x, y -> y.rights(1, 20));
        Edges.due("the owner's alone", 128, x, y -> y.rights(0, 20));
        for (int right = 0; right < 8; right++) {
            x.entry(right, 0, true, 1, false, 1 << right, EVERYWHERE);
            Edges.due("up to " + right, (2 << right) - 1, x, y -> y.rights(1, 20));
        }
        x.entry(20, 0, false, 1, false, 255, Edges.HERE);
        Edges.due("all denied", 0, x, y -> y.rights(1, 20));
        Edges.due("all of them above", 255, x, y -> y.rights(1, 19));
    }

    private static void promise13Missing() {
        Edges.sentence("13: NoSuchElementException.");
        Edges.due("the last user and node", 128, Edges.office(), y -> y.rights(4, 5));
        Edges.refusedOutside("user", Edges.MISSING, 0, 4, Edges::office, (y, n) -> y.rights(n, 0));
        Edges.refusedOutside("node", Edges.MISSING, 0, 5, Edges::office, (y, n) -> y.rights(0, n));
        Edges.refusedOutside("node of 150", Edges.MISSING, 0, 149, () -> Edges.wide(150), (y, n) -> y.rights(0, n));
        Edges.refused("one that went", Edges.MISSING, FolderRightsCallEdges::officeWithGap, y -> y.rights(0, 4));
    }

    private static void promise14Fields() {
        Edges.sentence("14: 0 the sort; 1 the node at which it is (NONE for none);"
            + " 2 the entry's position there (NONE for owner and none)");
        FolderRights x = Edges.withEntries(Edges.chain(20), 0, 11);
        x.entry(0, 11, true, 1, false, 2, EVERYWHERE);
        x.entry(20, 0, false, 1, false, 4, Edges.HERE);
        dueExplained("owner", x, 0, 7, 0, 20, NONE);
        dueExplained("allowed by the last entry of the root", x, 1, 1, 1, 0, 11);
        dueExplained("denied by the first entry of the node", x, 1, 2, 2, 20, 0);
        dueExplained("none", x, 1, 0, 3, NONE, NONE);
        dueExplained("right 7 of no owner", x, 1, 7, 3, NONE, NONE);
        dueExplained("right 6 of the owner", x, 0, 6, 3, NONE, NONE);
    }

    private static void dueExplained(String what, FolderRights x, int user, int right, int sort, int node, int position) {
        Edges.due(what + ", sort", sort, x, y -> y.explain(user, 20, right, 0));
        Edges.due(what + ", node", node, x, y -> y.explain(user, 20, right, 1));
        Edges.due(what + ", position", position, x, y -> y.explain(user, 20, right, 2));
    }

    private static void promise14Missing() {
        Edges.sentence("14: NoSuchElementException: user or node.");
        Edges.due("the last user and node", 0, Edges.office(), y -> y.explain(4, 5, 7, 0));
        Edges.refusedOutside("user", Edges.MISSING, 0, 4, Edges::office, (y, n) -> y.explain(n, 0, 0, 0));
        Edges.refusedOutside("node", Edges.MISSING, 0, 5, Edges::office, (y, n) -> y.explain(0, n, 0, 0));
        Edges.refused("one that went", Edges.MISSING, FolderRightsCallEdges::officeWithGap,
            y -> y.explain(0, 4, 0, 0));
    }

    private static void promise14Arguments() {
        Edges.sentence("14: IllegalArgumentException: right is not 0 .. 7, or field none of these.");
        Edges.due("the first right", 1, Edges.office(), y -> y.explain(3, 0, 0, 0));
        Edges.due("the last right", 0, Edges.office(), y -> y.explain(0, 0, 7, 0));
        Edges.due("the last field", 0, Edges.office(), y -> y.explain(3, 0, 0, 2));
        Edges.refusedOutside("right", Edges.ARGUMENT, 0, 7, Edges::office, (y, n) -> y.explain(0, 0, n, 0));
        Edges.refusedOutside("field", Edges.ARGUMENT, 0, 2, Edges::office, (y, n) -> y.explain(3, 0, 0, n));
        Edges.refusedOutside("field of the owner", Edges.ARGUMENT, 0, 2, Edges::office, (y, n) -> y.explain(0, 0, 7, n));
        Edges.refusedOutside("field of none", Edges.ARGUMENT, 0, 2, Edges::office, (y, n) -> y.explain(0, 2, 0, n));
    }

    // ---- 15 to 17: who, where, same

    private static void promise15Kth() {
        Edges.sentence("15: The k-th user (from 0, by numbers) who has a right at a node; NONE if there are fewer.");
        FolderRights x = Edges.people(60, 1);
        Edges.due("nobody", NONE, x, y -> y.who(0, 0, 0));
        x.entry(0, 0, true, 0, true, 1, Edges.HERE);
        for (int user = 59; user >= 0; user--) {
            x.join(0, user, false);
        }
        for (int k = 0; k < 60; k++) {
            int asked = k;
            Edges.due("of 60, " + k, k, x, y -> y.who(0, 0, asked));
        }
        for (int k : new int[] {60, 61, 64, 128, 256, 65536, Integer.MAX_VALUE}) {
            Edges.due("there are fewer than " + k, NONE, x, y -> y.who(0, 0, k));
        }
        x.entry(0, 0, false, 0, false, 1, Edges.HERE);
        x.entry(0, 0, false, 59, false, 1, Edges.HERE);
        Edges.due("without the first", 1, x, y -> y.who(0, 0, 0));
        Edges.due("without the last", 58, x, y -> y.who(0, 0, 57));
        Edges.due("58 are left", NONE, x, y -> y.who(0, 0, 58));
        Edges.due("the owner", 0, x, y -> y.who(0, 7, 0));
        Edges.due("the owner alone", NONE, x, y -> y.who(0, 7, 1));
    }

    private static void promise15Missing() {
        Edges.sentence("15: NoSuchElementException: node.");
        Edges.due("the last node", 4, Edges.office(), y -> y.who(5, 7, 0));
        Edges.refusedOutside("node", Edges.MISSING, 0, 5, Edges::office, (y, n) -> y.who(n, 0, 0));
        Edges.refused("one that went", Edges.MISSING, FolderRightsCallEdges::officeWithGap, y -> y.who(4, 0, 0));
    }

    private static void promise15Arguments() {
        Edges.sentence("15: IllegalArgumentException: right is not 0 .. 7, or k below 0.");
        Edges.due("the first right", 2, Edges.office(), y -> y.who(0, 0, 0));
        Edges.due("the last right", 0, Edges.office(), y -> y.who(0, 7, 0));
        Edges.refusedOutside("right", Edges.ARGUMENT, 0, 7, Edges::office, (y, n) -> y.who(0, n, 0));
        Edges.refusedOutside("k", Edges.ARGUMENT, 0, Integer.MAX_VALUE, Edges::office,
            (y, n) -> y.who(0, 7, n));
    }

    private static void promise16Kth() {
        Edges.sentence("16: The k-th node (from 0, by numbers) at which a user has a right; NONE if there are fewer.");
        FolderRights x = Edges.wide(150);
        Edges.due("nowhere", NONE, x, y -> y.where(1, 0, 0));
        x.entry(0, 0, true, 1, false, 1, EVERYWHERE);
        for (int k = 0; k < 150; k++) {
            int asked = k;
            Edges.due("of 150, " + k, k, x, y -> y.where(1, 0, asked));
        }
        for (int k : new int[] {150, 151, 256, 65536, Integer.MAX_VALUE}) {
            Edges.due("there are fewer than " + k, NONE, x, y -> y.where(1, 0, k));
        }
        x.remove(1);
        Edges.due("over one that went", 2, x, y -> y.where(1, 0, 1));
        Edges.due("the last", 149, x, y -> y.where(1, 0, 148));
        Edges.due("149 are left", NONE, x, y -> y.where(1, 0, 149));
        x.block(2, true);
        Edges.due("over one that blocks", 3, x, y -> y.where(1, 0, 1));
        Edges.due("the owner's, over one that went", 2, x, y -> y.where(0, 7, 1));
    }

    private static void promise16LooksUpToThatOne() {
        Edges.sentence("16: It looks at the nodes up to that one (at all, if there are fewer).");
        for (int k = 0; k < 5; k++) {
            FolderRights x = Edges.chain(4);
            x.where(0, 7, k);
            Edges.due("the " + k + "-th", Edges.numbers(k + 1, 4), x, y -> Edges.staleOnes(y));
        }
        FolderRights fewer = Edges.chain(4);
        fewer.where(0, 7, 5);
        Edges.due("there are fewer", 0, fewer, y -> y.stale());
        FolderRights nowhere = Edges.wide(150);
        nowhere.where(1, 0, 0);
        Edges.due("there is none", 0, nowhere, y -> y.stale());
        FolderRights last = Edges.chain(4);
        last.entry(3, 0, true, 1, false, 1, Edges.HERE);
        last.where(1, 0, 0);
        Edges.due("those at which the user has it not too", List.of(4), last, y -> Edges.staleOnes(y));
    }

    private static void promise16Missing() {
        Edges.sentence("16: NoSuchElementException: user.");
        Edges.due("the last user", 5, Edges.office(), y -> y.where(4, 7, 1));
        Edges.refusedOutside("user", Edges.MISSING, 0, 4, Edges::office, (y, n) -> y.where(n, 0, 0));
    }

    private static void promise16Arguments() {
        Edges.sentence("16: IllegalArgumentException: right is not 0 .. 7, or k below 0.");
        Edges.due("the first right", 0, Edges.office(), y -> y.where(3, 0, 0));
        Edges.due("the last right", 0, Edges.office(), y -> y.where(0, 7, 0));
        Edges.refusedOutside("right", Edges.ARGUMENT, 0, 7, Edges::office, (y, n) -> y.where(0, n, 0));
        Edges.refusedOutside("k", Edges.ARGUMENT, 0, Integer.MAX_VALUE, Edges::office,
            (y, n) -> y.where(0, 7, n));
    }

    private static void promise17AllUsers() {
        Edges.sentence("17: Whether all users have the same rights at two nodes");
        for (int user : new int[] {0, 1, 31, 32, 59}) {
            for (int right = 0; right < 8; right++) {
                FolderRights x = twoFolders();
                Edges.due("nothing differs", true, x, y -> y.same(1, 2));
                x.entry(2, 0, true, user, false, 1 << right, Edges.HERE);
                boolean owners = user == 0 && right == 7;
                Edges.due("user " + user + ", right " + right, owners, x, y -> y.same(1, 2));
                Edges.due("user " + user + ", right " + right + ", turned", owners, x, y -> y.same(2, 1));
                Edges.due("a node and itself", true, x, y -> y.same(2, 2));
            }
        }
        FolderRights owned = twoFolders();
        owned.owner(2, 59);
        Edges.due("the owners differ", false, owned, y -> y.same(1, 2));
        owned.entry(1, 0, true, 59, false, 128, Edges.HERE);
        owned.entry(2, 0, true, 0, false, 128, Edges.HERE);
        Edges.due("the same by other ways", true, owned, y -> y.same(1, 2));
        Edges.due("the root and itself", true, new FolderRights(), y -> y.same(0, 0));
    }

    /** 60 users, and the folders 1 and 2 in the root. */
    private static FolderRights twoFolders() {
        FolderRights x = Edges.people(60, 0);
        x.node(0, true, 0);
        x.node(0, true, 0);
        return x;
    }

    private static void promise17LooksAtBoth() {
        Edges.sentence("17: (it looks at both)");
        FolderRights alike = Edges.chain(4);
        alike.same(2, 4);
        Edges.due("alike", List.of(0, 1, 3), alike, y -> Edges.staleOnes(y));
        FolderRights differ = Edges.chain(4);
        differ.entry(2, 0, true, 1, false, 1, Edges.HERE);
        differ.same(2, 4);
        Edges.due("they differ", List.of(0, 1, 3), differ, y -> Edges.staleOnes(y));
    }

    private static void promise17Missing() {
        Edges.sentence("17: NoSuchElementException.");
        Edges.due("the first and the last", false, Edges.office(), y -> y.same(0, 5));
        Edges.refusedOutside("one", Edges.MISSING, 0, 5, Edges::office, (y, n) -> y.same(n, 0));
        Edges.refusedOutside("other", Edges.MISSING, 0, 5, Edges::office, (y, n) -> y.same(0, n));
        Edges.refusedOutside("both", Edges.MISSING, 0, 5, Edges::office, (y, n) -> y.same(n, n));
        Edges.refused("one that went", Edges.MISSING, FolderRightsCallEdges::officeWithGap, y -> y.same(0, 4));
    }

    // ---- 18 to 20: step, stale, in

    private static void promise18LeastStale() {
        Edges.sentence("18: The least stale node is renewed: its number");
        FolderRights x = Edges.wide(150);
        for (int node = 0; node < 150; node++) {
            int number = node;
            Edges.due("of 150, " + node, number, x, y -> y.step());
            Edges.due("left after " + node, 149 - number, x, y -> y.stale());
        }
        FolderRights office = Edges.office();
        for (int node : new int[] {0, 2, 4, 5, NONE}) {
            Edges.due("over those that are not, " + node, node, office, y -> y.step());
        }
        FolderRights gap = officeWithGap();
        for (int node : new int[] {0, 2, 5, NONE}) {
            Edges.due("over one that went, " + node, node, gap, y -> y.step());
        }
    }

    private static void promise18NoneIs() {
        Edges.sentence("18: NONE if none is.");
        FolderRights x = new FolderRights();
        Edges.due("the root", 0, x, y -> y.step());
        Edges.due("none", NONE, x, y -> y.step());
        Edges.due("still none", NONE, x, y -> y.step());
        Edges.due("nothing is stale by it", 0, x, y -> y.stale());
    }

    private static void promise19HowMany() {
        Edges.sentence("19: How many nodes are stale.");
        Edges.due("the root alone", 1, new FolderRights(), y -> y.stale());
        Edges.due("none", 0, Edges.renewed(new FolderRights()), y -> y.stale());
        FolderRights full = Edges.wide(150);
        Edges.due("all of 150", 150, full, y -> y.stale());
        full.remove(149);
        Edges.due("not one that went", 149, full, y -> y.stale());
        FolderRights below = Edges.renewed(Edges.wide(150));
        below.entry(0, 0, true, 0, false, 1, Edges.HERE);
        Edges.due("all but the root", 149, below, y -> y.stale());
        Edges.due("asking renews none", 149, below, y -> y.stale());
    }

    private static void promise20Missing() {
        Edges.sentence("20: Whether a user is in a group. NoSuchElementException.");
        Edges.due("the first of both", false, Edges.office(), y -> y.in(0, 0));
        Edges.due("the last of both", false, Edges.office(), y -> y.in(2, 4));
        Edges.due("a member", true, Edges.office(), y -> y.in(0, 3));
        Edges.due("by a group", true, Edges.office(), y -> y.in(0, 2));
        Edges.refusedOutside("group", Edges.MISSING, 0, 2, Edges::office, (y, n) -> y.in(n, 0));
        Edges.refusedOutside("user", Edges.MISSING, 0, 4, Edges::office, (y, n) -> y.in(0, n));
    }

    // ---- 21 and 22: about, count

    private static void promise21Fields() {
        Edges.sentence("21: Of a node: 0 its parent (NONE: the root), 1 .., 7 1 if it is stale, else 0");
        FolderRights chain = Edges.withEntries(Edges.chain(20), 20, 12);
        chain.owner(20, 1);
        chain.block(20, true);
        chain.rights(0, 20);
        dueTold("the deepest", chain, 20, 19, 1, 1, 1, 20, 12, 0, 0);
        dueTold("a new root", new FolderRights(), 0, NONE, 1, 0, 0, 0, 0, 0, 1);
        FolderRights full = Edges.wide(150);
        dueTold("a full root", full, 0, NONE, 1, 0, 0, 0, 0, 149, 1);
        dueTold("the last of 150", full, 149, 0, 0, 0, 0, 1, 0, 0, 1);
        full.remove(149);
        full.move(148, 2);
        Edges.due("children, one went and one moved", 147, full, y -> y.about(0, 6));
        Edges.due("children, not those further below", 1, Edges.office(), y -> y.about(1, 6));
    }

    private static void dueTold(String what, FolderRights x, int node, int... told) {
        for (int i = 0; i < told.length; i++) {
            int asked = i;
            Edges.due(what + ", " + i, told[i], x, y -> y.about(node, asked));
        }
    }

    private static void promise21Missing() {
        Edges.sentence("21: NoSuchElementException.");
        for (int what = 0; what < 8; what++) {
            int asked = what;
            Edges.refusedOutside("node, asked for " + what, Edges.MISSING, 0, 5, Edges::office,
                (y, n) -> y.about(n, asked));
        }
        Edges.refused("one that went", Edges.MISSING, FolderRightsCallEdges::officeWithGap, y -> y.about(4, 0));
    }

    private static void promise21Arguments() {
        Edges.sentence("21: IllegalArgumentException: none of these.");
        for (int node = 0; node <= 5; node++) {
            int asked = node;
            Edges.refusedOutside("of node " + node, Edges.ARGUMENT, 0, 7, Edges::office,
                (y, n) -> y.about(asked, n));
        }
    }

    private static void promise22Counts() {
        Edges.sentence("22: 0 users, 1 groups, 2 nodes, 3 entries of all nodes, 4 members of all groups.");
        dueCounted("new", new FolderRights(), 1, 0, 1, 0, 0);
        dueCounted("office", Edges.office(), 5, 3, 6, 4, 3);
        FolderRights full = Edges.people(60, 24);
        for (int node = 1; node < 150; node++) {
            full.node(0, true, 0);
        }
        for (int group = 0; group < 24; group++) {
            full.join(group, 59, false);
        }
        for (int group = 1; group < 24; group++) {
            full.join(group - 1, group, true);
        }
        Edges.withEntries(Edges.withEntries(full, 0, 12), 149, 12);
        dueCounted("full", full, 60, 24, 150, 24, 47);
        full.remove(149);
        full.dropEntry(0, 11);
        full.leave(23, 59, false);
        full.leave(0, 1, true);
        dueCounted("less", full, 60, 24, 149, 11, 45);
    }

    private static void dueCounted(String what, FolderRights x, int... counted) {
        for (int i = 0; i < counted.length; i++) {
            int asked = i;
            Edges.due(what + ", " + i, counted[i], x, y -> y.count(asked));
        }
    }

    private static void promise22Arguments() {
        Edges.sentence("22: IllegalArgumentException: none of these.");
        Edges.refusedOutside("what", Edges.ARGUMENT, 0, 4, Edges::office, (y, n) -> y.count(n));
    }
}
