import java.util.NoSuchElementException;

/** One method for each promise of the document, named after it; each makes objects of its own. */
public final class FolderRightsPromises {
    private static final int NONE = FolderRights.NONE;
    private static final Class<?> MISSING = NoSuchElementException.class;
    private static final Class<?> ARGUMENT = IllegalArgumentException.class;
    private static final Class<?> STATE = IllegalStateException.class;

    private static final int HERE = 1;
    private static final int FOLDERS = 2;
    private static final int DOCUMENTS = 4;
    private static final int NEXT = 8;

    private static int wrong = 0;

    private interface Call {
        Object answer();
    }

    private static void due(String what, Object want, Call call) {
        Object got;
        try {
            got = call.answer();
        } catch (RuntimeException e) {
            got = e.getClass();
        }
        if (!want.equals(got)) {
            wrong++;
            System.out.println(what + ": answered " + got + ", due is " + want);
        }
    }

    public static void main(String[] args) {
        promise1NewObject();
        promise2User();
        promise3Group();
        promise4Join();
        promise5Leave();
        promise6Node();
        promise6NodeLimits();
        promise7Move();
        promise7MoveDepth();
        promise8Remove();
        promise9Entry();
        promise9EntryPositions();
        promise10DropEntry();
        promise11Block();
        promise12Owner();
        promise13Rights();
        promise13RightsReach();
        promise13RightsBlocked();
        promise13RightsOfGroups();
        promise14Explain();
        promise14ExplainFirstOfALevel();
        promise15Who();
        promise16Where();
        promise17Same();
        promise18Step();
        promise19StaleByEntries();
        promise19StaleByBlocking();
        promise19StaleByMoving();
        promise19StaleNotByOthers();
        promise19RenewedByLooking();
        promise19RefusedCallsRenewNothing();
        promise20In();
        promise21About();
        promise22Count();
        refusedCallsChangeNothing();
        System.out.println(wrong == 0 ? "all promises hold" : wrong + " answers are not as due");
        if (wrong != 0) {
            System.exit(1);
        }
    }

    // ---- helpers

    /** The root 0, folder 1 in it, folder 2 in 1, document 3 in 2, document 4 in the root; users 0 .. 2. */
    private static FolderRights tree() {
        FolderRights x = new FolderRights();
        x.user();
        x.user();
        x.node(0, true, 0);
        x.node(1, true, 0);
        x.node(2, false, 0);
        x.node(0, false, 0);
        return x;
    }

    private static FolderRights freshTree() {
        FolderRights x = tree();
        renewAll(x);
        return x;
    }

    private static void renewAll(FolderRights x) {
        while (x.step() != NONE) {
            continue;
        }
    }

    /** The stale ones of the nodes 0 .. 9, as bits. */
    private static int staleBits(FolderRights x) {
        int bits = 0;
        for (int node = 0; node < 10; node++) {
            try {
                bits |= x.about(node, 7) << node;
            } catch (NoSuchElementException e) {
                continue;
            }
        }
        return bits;
    }

    /** A chain of folders from a parent downwards; the number of the last one. */
    private static int chain(FolderRights x, int parent, int length) {
        int last = parent;
        for (int i = 0; i < length; i++) {
            last = x.node(last, true, 0);
        }
        return last;
    }

    // ---- promises

    private static void promise1NewObject() {
        FolderRights x = new FolderRights();
        due("1 users", 1, () -> x.count(0));
        due("1 groups", 0, () -> x.count(1));
        due("1 nodes", 1, () -> x.count(2));
        due("1 entries", 0, () -> x.count(3));
        due("1 members", 0, () -> x.count(4));
        due("1 root's parent", NONE, () -> x.about(0, 0));
        due("1 root is a folder", 1, () -> x.about(0, 1));
        due("1 root's owner", 0, () -> x.about(0, 2));
        due("1 root does not block", 0, () -> x.about(0, 3));
        due("1 root's depth", 0, () -> x.about(0, 4));
        due("1 root is stale at first", 1, () -> x.stale());
        due("1 NONE", -1, () -> FolderRights.NONE);
    }

    private static void promise2User() {
        FolderRights x = new FolderRights();
        for (int i = 1; i < 60; i++) {
            int number = i;
            due("2 user", number, () -> x.user());
        }
        due("2 there are 60", STATE, () -> x.user());
        due("2 still 60", 60, () -> x.count(0));
        due("2 the last one can be used", 128, () -> {
            x.owner(0, 59);
            return x.rights(59, 0);
        });
        due("2 the last one is told by who", 59, () -> x.who(0, 7, 0));
        due("2 the 61st is none", MISSING, () -> x.rights(60, 0));
    }

    private static void promise3Group() {
        FolderRights x = new FolderRights();
        for (int i = 0; i < 24; i++) {
            int number = i;
            due("3 group", number, () -> x.group());
            due("3 without members", false, () -> x.in(number, 0));
        }
        due("3 there are 24", STATE, () -> x.group());
        due("3 still 24", 24, () -> x.count(1));
        due("3 the last one can be used", true, () -> x.join(23, 0, false) && x.in(23, 0));
        due("3 the 25th is none", MISSING, () -> x.in(24, 0));
    }

    private static void promise4Join() {
        FolderRights x = new FolderRights();
        x.user();
        for (int i = 0; i < 4; i++) {
            x.group();
        }
        due("4 a user joins", true, () -> x.join(0, 1, false));
        due("4 is a member already", false, () -> x.join(0, 1, false));
        due("4 a group of that number joins beside it", true, () -> x.join(0, 1, true));
        due("4 is a member already, a group", false, () -> x.join(0, 1, true));
        due("4 members", 2, () -> x.count(4));
        due("4 a chain", true, () -> x.join(1, 2, true));
        due("4 itself", STATE, () -> x.join(0, 0, true));
        due("4 itself by one", STATE, () -> x.join(1, 0, true));
        due("4 itself by two", STATE, () -> x.join(2, 0, true));
        due("4 a user whose number is the group's", true, () -> x.join(0, 0, false));
        due("4 two ways to one group", true, () -> x.join(0, 2, true));
        due("4 no such group", MISSING, () -> x.join(4, 0, false));
        due("4 no such group below 0", MISSING, () -> x.join(-1, 0, false));
        due("4 no such member group", MISSING, () -> x.join(0, 4, true));
        due("4 no such member group below 0", MISSING, () -> x.join(0, -1, true));
        due("4 no such user", MISSING, () -> x.join(0, 2, false));
        due("4 no such user below 0", MISSING, () -> x.join(0, -1, false));
        due("4 no such group is both", MISSING, () -> x.join(4, 4, true));
        due("4 members at the end", 5, () -> x.count(4));
    }

    private static void promise5Leave() {
        FolderRights x = new FolderRights();
        x.user();
        x.group();
        x.group();
        x.join(0, 1, true);
        x.join(1, 1, false);
        due("5 was no member, a user", false, () -> x.leave(0, 1, false));
        due("5 in by the group", true, () -> x.in(0, 1));
        due("5 was a member", true, () -> x.leave(0, 1, true));
        due("5 was one no more", false, () -> x.leave(0, 1, true));
        due("5 out", false, () -> x.in(0, 1));
        due("5 still in the other", true, () -> x.in(1, 1));
        due("5 members", 1, () -> x.count(4));
        due("5 the other way round now", true, () -> x.join(1, 0, true));
        due("5 itself was no member", false, () -> x.leave(0, 0, true));
        due("5 no such group", MISSING, () -> x.leave(2, 0, false));
        due("5 no such group below 0", MISSING, () -> x.leave(-1, 0, false));
        due("5 no such user", MISSING, () -> x.leave(0, 2, false));
        due("5 no such member group", MISSING, () -> x.leave(0, 2, true));
        due("5 no such member below 0", MISSING, () -> x.leave(0, -1, true));
    }

    private static void promise6Node() {
        FolderRights x = new FolderRights();
        x.user();
        due("6 folder", 1, () -> x.node(0, true, 1));
        due("6 document", 2, () -> x.node(1, false, 0));
        due("6 owner", 1, () -> x.about(1, 2));
        due("6 parent", 1, () -> x.about(2, 0));
        due("6 document is told", 0, () -> x.about(2, 1));
        due("6 folder is told", 1, () -> x.about(1, 1));
        due("6 does not block", 0, () -> x.about(2, 3));
        due("6 no entries", 0, () -> x.about(2, 5));
        due("6 stale", 1, () -> x.about(2, 7));
        due("6 third", 3, () -> x.node(0, true, 0));
        x.entry(2, 0, true, 0, false, 1, HERE);
        x.block(2, true);
        x.rights(0, 2);
        x.remove(2);
        due("6 the least number that is not there", 2, () -> x.node(3, true, 0));
        due("6 without the entries of the one before", 0, () -> x.about(2, 5));
        due("6 does not block as the one before did", 0, () -> x.about(2, 3));
        due("6 is stale as the one before was not", 1, () -> x.about(2, 7));
        due("6 the next number", 4, () -> x.node(0, false, 0));
        due("6 no such parent", MISSING, () -> x.node(5, true, 0));
        due("6 no such parent below 0", MISSING, () -> x.node(-1, true, 0));
        due("6 no such parent, far", MISSING, () -> x.node(150, true, 0));
        due("6 no such owner", MISSING, () -> x.node(0, true, 2));
        due("6 no such owner below 0", MISSING, () -> x.node(0, true, -1));
        due("6 the parent is a document", ARGUMENT, () -> x.node(4, true, 0));
        due("6 a document, and no such owner", MISSING, () -> x.node(4, true, 2));
    }

    private static void promise6NodeLimits() {
        FolderRights x = new FolderRights();
        int last = chain(x, 0, 20);
        due("6 depth 20", 20, () -> x.about(last, 4));
        due("6 deeper than 20", STATE, () -> x.node(last, true, 0));
        due("6 a document deeper than 20", STATE, () -> x.node(last, false, 0));
        int document = x.node(last - 1, false, 0);
        due("6 a document at depth 20", 20, () -> x.about(document, 4));
        due("6 a document before deeper than 20", ARGUMENT, () -> x.node(document, false, 0));
        for (int i = x.count(2); i < 150; i++) {
            int number = i;
            due("6 fills up", number, () -> x.node(0, number % 2 == 0, 0));
        }
        due("6 there are 150", STATE, () -> x.node(0, true, 0));
        due("6 there are 150, a document as parent", ARGUMENT, () -> x.node(document, true, 0));
        due("6 there are 150, no such parent", MISSING, () -> x.node(150, true, 0));
        due("6 150 nodes", 150, () -> x.count(2));
        x.remove(149);
        x.remove(77);
        due("6 the lesser of two", 77, () -> x.node(0, true, 0));
        due("6 the greater of two", 149, () -> x.node(0, true, 0));
    }

    private static void promise7Move() {
        FolderRights x = tree();
        due("7 depth", 1, () -> x.move(2, 0));
        due("7 parent", 0, () -> x.about(2, 0));
        due("7 those below come along", 2, () -> x.about(3, 4));
        due("7 the child keeps its parent", 2, () -> x.about(3, 0));
        due("7 the same parent", 1, () -> x.move(2, 0));
        due("7 down again", 2, () -> x.move(2, 1));
        due("7 a document moves", 3, () -> x.move(4, 2));
        due("7 no such node", MISSING, () -> x.move(5, 0));
        due("7 no such node below 0", MISSING, () -> x.move(-1, 0));
        due("7 no such parent", MISSING, () -> x.move(1, 5));
        due("7 no such parent below 0", MISSING, () -> x.move(1, -1));
        due("7 root and no such parent", MISSING, () -> x.move(0, 5));
        due("7 root", ARGUMENT, () -> x.move(0, 1));
        due("7 root into itself", ARGUMENT, () -> x.move(0, 0));
        due("7 a document as parent", ARGUMENT, () -> x.move(1, 4));
        due("7 into a document elsewhere", ARGUMENT, () -> x.move(3, 4));
        due("7 into itself", ARGUMENT, () -> x.move(1, 1));
        due("7 below itself by one", ARGUMENT, () -> x.move(1, 2));
        due("7 below itself by more", ARGUMENT, () -> {
            int folder = x.node(2, true, 0);
            return x.move(1, folder);
        });
        due("7 nothing moved", 0, () -> x.about(1, 0));
    }

    private static void promise7MoveDepth() {
        FolderRights x = new FolderRights();
        int deep = chain(x, 0, 18);
        int top = x.node(0, true, 0);
        int low = x.node(top, true, 0);
        due("7 to depth 20 exactly", 19, () -> x.move(top, deep));
        due("7 the lowest is at 20", 20, () -> x.about(low, 4));
        x.move(top, 0);
        int document = x.node(low, false, 0);
        due("7 a node below would be deeper than 20", STATE, () -> x.move(top, deep));
        due("7 nothing moved", 0, () -> x.about(top, 0));
        due("7 a level higher it fits", 18, () -> x.move(top, deep - 1));
        due("7 the lowest is at 20 again", 20, () -> x.about(document, 4));
        due("7 a part of what is there may go up", 1, () -> x.move(low, 0));
        due("7 root's depth stays", 0, () -> x.about(0, 4));
        FolderRights y = new FolderRights();
        int end = chain(y, 0, 20);
        due("7 the deepest in its place", 20, () -> y.move(end, end - 1));
        due("7 the highest in its place", 1, () -> y.move(1, 0));
        int other = y.node(0, true, 0);
        due("7 one level too deep", STATE, () -> y.move(1, other));
        due("7 below the deepest", STATE, () -> y.move(other, end));
        due("7 below the deepest, itself", ARGUMENT, () -> y.move(end, end));
    }

    private static void promise8Remove() {
        FolderRights x = tree();
        x.entry(3, 0, true, 0, false, 1, HERE);
        x.entry(3, 0, true, 0, false, 1, HERE);
        due("8 some node is below", STATE, () -> x.remove(2));
        due("8 root", ARGUMENT, () -> x.remove(0));
        due("8 how many entries", 2, () -> x.remove(3));
        due("8 it is gone", MISSING, () -> x.about(3, 0));
        due("8 it is gone for remove", MISSING, () -> x.remove(3));
        due("8 its entries are gone", 0, () -> x.count(3));
        due("8 it is no child", 0, () -> x.about(2, 6));
        due("8 its parent can go now", 0, () -> x.remove(2));
        due("8 nodes", 3, () -> x.count(2));
        due("8 no such node", MISSING, () -> x.remove(5));
        due("8 no such node below 0", MISSING, () -> x.remove(-1));
        due("8 no such node, far", MISSING, () -> x.remove(150));
        FolderRights y = new FolderRights();
        due("8 root without children", ARGUMENT, () -> y.remove(0));
    }

    private static void promise9Entry() {
        FolderRights x = tree();
        x.group();
        due("9 first", 1, () -> x.entry(1, 0, true, 1, false, 1, HERE));
        due("9 second", 2, () -> x.entry(1, 1, true, 0, true, 255, 15));
        due("9 position below 0", ARGUMENT, () -> x.entry(1, -1, true, 0, false, 1, HERE));
        due("9 position too great", ARGUMENT, () -> x.entry(1, 3, true, 0, false, 1, HERE));
        due("9 no rights", ARGUMENT, () -> x.entry(1, 0, true, 0, false, 0, HERE));
        due("9 rights too great", ARGUMENT, () -> x.entry(1, 0, true, 0, false, 256, HERE));
        due("9 rights below 0", ARGUMENT, () -> x.entry(1, 0, true, 0, false, -1, HERE));
        due("9 no flags", ARGUMENT, () -> x.entry(1, 0, true, 0, false, 1, 0));
        due("9 flags too great", ARGUMENT, () -> x.entry(1, 0, true, 0, false, 1, 16));
        due("9 flags below 0", ARGUMENT, () -> x.entry(1, 0, true, 0, false, 1, -1));
        due("9 next alone", ARGUMENT, () -> x.entry(1, 0, true, 0, false, 1, NEXT));
        due("9 next and here", 3, () -> x.entry(1, 0, true, 0, false, 1, NEXT | HERE));
        due("9 no such node", MISSING, () -> x.entry(5, 0, true, 0, false, 1, HERE));
        due("9 no such node below 0", MISSING, () -> x.entry(-1, 0, true, 0, false, 1, HERE));
        due("9 no such user", MISSING, () -> x.entry(1, 0, true, 3, false, 1, HERE));
        due("9 no such user below 0", MISSING, () -> x.entry(1, 0, true, -1, false, 1, HERE));
        due("9 no such group", MISSING, () -> x.entry(1, 0, true, 1, true, 1, HERE));
        due("9 no such group below 0", MISSING, () -> x.entry(1, 0, true, -1, true, 1, HERE));
        due("9 missing before argument", MISSING, () -> x.entry(1, -1, true, 3, false, 0, 0));
        for (int i = 3; i < 12; i++) {
            int number = i + 1;
            due("9 fills up", number, () -> x.entry(1, 0, false, 0, false, 1, DOCUMENTS));
        }
        due("9 there are twelve", STATE, () -> x.entry(1, 12, true, 0, false, 1, HERE));
        due("9 there are twelve, at the start", STATE, () -> x.entry(1, 0, true, 0, false, 1, HERE));
        due("9 argument before state", ARGUMENT, () -> x.entry(1, 13, true, 0, false, 1, HERE));
        due("9 rights before state", ARGUMENT, () -> x.entry(1, 0, true, 0, false, 256, HERE));
        due("9 flags before state", ARGUMENT, () -> x.entry(1, 0, true, 0, false, 1, NEXT));
        due("9 missing before state", MISSING, () -> x.entry(1, 0, true, 3, false, 1, HERE));
        due("9 twelve", 12, () -> x.about(1, 5));
        due("9 another node may have entries", 1, () -> x.entry(2, 0, true, 0, false, 1, HERE));
    }

    private static void promise9EntryPositions() {
        FolderRights x = new FolderRights();
        x.entry(0, 0, true, 0, false, 1, HERE);
        x.entry(0, 0, true, 0, false, 2, HERE);
        x.entry(0, 1, true, 0, false, 4, HERE);
        x.entry(0, 3, true, 0, false, 8, HERE);
        due("9 came first, is moved twice", 2, () -> x.explain(0, 0, 0, 2));
        due("9 came at the start", 0, () -> x.explain(0, 0, 1, 2));
        due("9 came in the middle", 1, () -> x.explain(0, 0, 2, 2));
        due("9 came at the end", 3, () -> x.explain(0, 0, 3, 2));
    }

    private static void promise10DropEntry() {
        FolderRights x = new FolderRights();
        for (int i = 0; i < 4; i++) {
            x.entry(0, i, true, 0, false, 1 << i, HERE);
        }
        due("10 no entry at the number of entries", MISSING, () -> x.dropEntry(0, 4));
        due("10 no entry below 0", MISSING, () -> x.dropEntry(0, -1));
        due("10 no such node", MISSING, () -> x.dropEntry(1, 0));
        due("10 no such node below 0", MISSING, () -> x.dropEntry(-1, 0));
        due("10 how many there are", 3, () -> x.dropEntry(0, 1));
        due("10 the one before stays", 0, () -> x.explain(0, 0, 0, 2));
        due("10 it is gone", 3, () -> x.explain(0, 0, 1, 0));
        due("10 the one behind has one number less", 1, () -> x.explain(0, 0, 2, 2));
        due("10 the last has one number less", 2, () -> x.explain(0, 0, 3, 2));
        due("10 the last goes", 2, () -> x.dropEntry(0, 2));
        due("10 the first goes", 1, () -> x.dropEntry(0, 0));
        due("10 the only one goes", 0, () -> x.dropEntry(0, 0));
        due("10 none is there", MISSING, () -> x.dropEntry(0, 0));
    }

    private static void promise11Block() {
        FolderRights x = tree();
        due("11 did not", false, () -> x.block(1, true));
        due("11 is told", 1, () -> x.about(1, 3));
        due("11 did", true, () -> x.block(1, true));
        due("11 still does", true, () -> x.block(1, false));
        due("11 does not now", false, () -> x.block(1, false));
        due("11 is told again", 0, () -> x.about(1, 3));
        due("11 a document blocks", false, () -> x.block(3, true));
        due("11 the root blocks", false, () -> x.block(0, true));
        due("11 no such node", MISSING, () -> x.block(5, true));
        due("11 no such node below 0", MISSING, () -> x.block(-1, true));
    }

    private static void promise12Owner() {
        FolderRights x = tree();
        due("12 who it was", 0, () -> x.owner(3, 2));
        due("12 who it was then", 2, () -> x.owner(3, 1));
        due("12 is told", 1, () -> x.about(3, 2));
        due("12 the same one", 1, () -> x.owner(3, 1));
        due("12 the new one has right 7", 128, () -> x.rights(1, 3));
        due("12 the old one has not", 0, () -> x.rights(2, 3));
        due("12 no such node", MISSING, () -> x.owner(5, 0));
        due("12 no such user", MISSING, () -> x.owner(3, 3));
        due("12 no such user below 0", MISSING, () -> x.owner(3, -1));
    }

    private static void promise13Rights() {
        FolderRights x = tree();
        due("13 an owner without entries", 128, () -> x.rights(0, 3));
        due("13 a user without entries", 0, () -> x.rights(1, 3));
        x.entry(0, 0, true, 1, false, 0b1111, HERE | FOLDERS | DOCUMENTS);
        due("13 from the root", 0b1111, () -> x.rights(1, 3));
        due("13 another user has nothing", 0, () -> x.rights(2, 3));
        x.entry(1, 0, false, 1, false, 0b0110, DOCUMENTS);
        due("13 denied nearer", 0b1001, () -> x.rights(1, 3));
        due("13 the folders are not denied", 0b1111, () -> x.rights(1, 2));
        x.entry(2, 0, true, 1, false, 0b0010, DOCUMENTS);
        due("13 allowed nearer still", 0b1011, () -> x.rights(1, 3));
        x.entry(3, 0, false, 1, false, 0b1000, HERE);
        due("13 denied at the node itself", 0b0011, () -> x.rights(1, 3));
        x.entry(3, 0, true, 1, false, 0b11000, HERE);
        due("13 one that denies goes before one that allows", 0b10011, () -> x.rights(1, 3));
        x.entry(3, 0, false, 0, false, 255, HERE);
        due("13 an owner keeps right 7 against all", 128, () -> x.rights(0, 3));
        x.entry(3, 0, true, 2, false, 255, HERE);
        due("13 right 7 by an entry", 255, () -> x.rights(2, 3));
        x.owner(3, 2);
        due("13 right 7 is denied to whom owns no more", 0, () -> x.rights(0, 3));
        due("13 the owner above is no owner here", 128, () -> x.rights(0, 2));
        due("13 no such user", MISSING, () -> x.rights(3, 0));
        due("13 no such user below 0", MISSING, () -> x.rights(-1, 0));
        due("13 no such node", MISSING, () -> x.rights(0, 5));
        due("13 no such node below 0", MISSING, () -> x.rights(0, -1));
        due("13 no such node, far", MISSING, () -> x.rights(0, 150));
    }

    /** For each set of flags, which of root 0, folder 1, folder 2, document 3 (in 2), document 4 (in 0) it reaches. */
    private static void promise13RightsReach() {
        for (int flags = 1; flags <= 15; flags++) {
            if (flags == NEXT) {
                continue;
            }
            FolderRights x = tree();
            x.entry(0, 0, true, 1, false, 1, flags);
            boolean here = (flags & HERE) != 0;
            boolean folders = (flags & FOLDERS) != 0;
            boolean documents = (flags & DOCUMENTS) != 0;
            boolean far = (flags & NEXT) == 0;
            due("13 flags " + flags + " root", here ? 1 : 0, () -> x.rights(1, 0));
            due("13 flags " + flags + " folder", folders ? 1 : 0, () -> x.rights(1, 1));
            due("13 flags " + flags + " folder below", folders && far ? 1 : 0, () -> x.rights(1, 2));
            due("13 flags " + flags + " document", documents ? 1 : 0, () -> x.rights(1, 4));
            due("13 flags " + flags + " document below", documents && far ? 1 : 0, () -> x.rights(1, 3));
        }
        FolderRights y = tree();
        y.entry(2, 0, true, 1, false, 1, HERE | FOLDERS | DOCUMENTS);
        due("13 nothing goes up", 0, () -> y.rights(1, 1));
        due("13 nothing goes aside", 0, () -> y.rights(1, 4));
        y.entry(4, 0, true, 1, false, 2, FOLDERS | DOCUMENTS);
        due("13 a document's entry without HERE reaches nothing", 0, () -> y.rights(1, 4));
    }

    private static void promise13RightsBlocked() {
        FolderRights x = tree();
        for (int node = 0; node < 4; node++) {
            x.entry(node, 0, true, 1, false, 1 << node, HERE | FOLDERS | DOCUMENTS);
        }
        due("13 all levels", 15, () -> x.rights(1, 3));
        x.block(1, true);
        due("13 up to the one that blocks, that one too", 14, () -> x.rights(1, 3));
        due("13 at the one that blocks", 2, () -> x.rights(1, 1));
        x.block(2, true);
        due("13 up to the first that blocks", 12, () -> x.rights(1, 3));
        x.block(3, true);
        due("13 the node itself blocks", 8, () -> x.rights(1, 3));
        x.block(3, false);
        x.block(2, false);
        due("13 the further one again", 14, () -> x.rights(1, 3));
        x.block(1, false);
        due("13 none blocks", 15, () -> x.rights(1, 3));
        x.block(0, true);
        due("13 that the root blocks takes nothing", 15, () -> x.rights(1, 3));
        x.move(3, 0);
        due("13 after a move", 9, () -> x.rights(1, 3));
    }

    private static void promise13RightsOfGroups() {
        FolderRights x = tree();
        x.group();
        x.group();
        x.entry(0, 0, true, 0, true, 1, HERE | FOLDERS | DOCUMENTS);
        due("13 not in the group", 0, () -> x.rights(1, 3));
        x.join(0, 1, true);
        x.join(1, 1, false);
        due("13 in by a group", 1, () -> x.rights(1, 3));
        due("13 a user who has the group's number", 128, () -> x.rights(0, 3));
        x.entry(3, 0, false, 1, true, 1, HERE);
        due("13 denied by the inner group", 0, () -> x.rights(1, 3));
        x.leave(1, 1, false);
        x.join(0, 1, false);
        due("13 in the outer one alone", 1, () -> x.rights(1, 3));
        x.leave(0, 1, false);
        due("13 out", 0, () -> x.rights(1, 3));
    }

    private static void promise14Explain() {
        FolderRights x = tree();
        x.entry(3, 0, false, 0, false, 255, HERE);
        due("14 owner", 0, () -> x.explain(0, 3, 7, 0));
        due("14 owner's node", 3, () -> x.explain(0, 3, 7, 1));
        due("14 owner's position", NONE, () -> x.explain(0, 3, 7, 2));
        due("14 an owner has no other right by it", 2, () -> x.explain(0, 3, 6, 0));
        due("14 none", 3, () -> x.explain(1, 3, 0, 0));
        due("14 none's node", NONE, () -> x.explain(1, 3, 0, 1));
        due("14 none's position", NONE, () -> x.explain(1, 3, 0, 2));
        due("14 right 7 of another, none", 3, () -> x.explain(1, 3, 7, 0));
        x.entry(1, 0, true, 2, false, 255, DOCUMENTS);
        x.entry(1, 1, true, 1, false, 128, DOCUMENTS);
        due("14 allowed", 1, () -> x.explain(1, 3, 7, 0));
        due("14 allowed at", 1, () -> x.explain(1, 3, 7, 1));
        due("14 allowed by", 1, () -> x.explain(1, 3, 7, 2));
        x.entry(2, 0, false, 1, false, 128, DOCUMENTS);
        due("14 denied", 2, () -> x.explain(1, 3, 7, 0));
        due("14 denied at", 2, () -> x.explain(1, 3, 7, 1));
        due("14 denied by", 0, () -> x.explain(1, 3, 7, 2));
        x.dropEntry(2, 0);
        x.block(2, true);
        due("14 blocked", 3, () -> x.explain(1, 3, 7, 0));
        due("14 no such user", MISSING, () -> x.explain(3, 3, 0, 0));
        due("14 no such user below 0", MISSING, () -> x.explain(-1, 3, 0, 0));
        due("14 no such node", MISSING, () -> x.explain(0, 5, 0, 0));
        due("14 no such node below 0", MISSING, () -> x.explain(0, -1, 0, 0));
        due("14 missing before argument", MISSING, () -> x.explain(0, 5, 8, 3));
        due("14 right too great", ARGUMENT, () -> x.explain(0, 3, 8, 0));
        due("14 right below 0", ARGUMENT, () -> x.explain(0, 3, -1, 0));
        due("14 field too great", ARGUMENT, () -> x.explain(0, 3, 7, 3));
        due("14 field below 0", ARGUMENT, () -> x.explain(0, 3, 7, -1));
    }

    private static void promise14ExplainFirstOfALevel() {
        FolderRights x = new FolderRights();
        x.user();
        x.group();
        x.join(0, 1, false);
        x.entry(0, 0, true, 1, false, 1, FOLDERS);
        x.entry(0, 1, true, 0, false, 1, HERE);
        x.entry(0, 2, true, 1, false, 2, HERE);
        x.entry(0, 3, true, 1, false, 1, HERE);
        x.entry(0, 4, true, 0, true, 1, HERE);
        due("14 the first that allows, reaches and matches", 3, () -> x.explain(1, 0, 0, 2));
        x.entry(0, 5, false, 1, false, 1, FOLDERS | DOCUMENTS);
        x.entry(0, 6, false, 0, true, 1, HERE);
        x.entry(0, 7, false, 1, false, 1, HERE);
        due("14 the first that denies, reaches and matches", 6, () -> x.explain(1, 0, 0, 2));
        due("14 it denies", 2, () -> x.explain(1, 0, 0, 0));
        due("14 the answer is the same", 2, () -> x.rights(1, 0));
        x.leave(0, 1, false);
        due("14 the next that denies", 7, () -> x.explain(1, 0, 0, 2));
    }

    private static void promise15Who() {
        FolderRights x = tree();
        x.group();
        x.entry(1, 0, true, 0, true, 1, HERE);
        x.entry(1, 1, false, 1, false, 1, HERE);
        due("15 nobody", NONE, () -> x.who(1, 0, 0));
        x.join(0, 2, false);
        x.join(0, 1, false);
        x.join(0, 0, false);
        due("15 first", 0, () -> x.who(1, 0, 0));
        due("15 second, over one who is denied", 2, () -> x.who(1, 0, 1));
        due("15 there are fewer", NONE, () -> x.who(1, 0, 2));
        due("15 far fewer", NONE, () -> x.who(1, 0, Integer.MAX_VALUE));
        due("15 another right", NONE, () -> x.who(1, 1, 0));
        x.owner(1, 2);
        due("15 the owner", 2, () -> x.who(1, 7, 0));
        due("15 the owner alone", NONE, () -> x.who(1, 7, 1));
        due("15 no such node", MISSING, () -> x.who(5, 0, 0));
        due("15 no such node below 0", MISSING, () -> x.who(-1, 8, -1));
        due("15 right too great", ARGUMENT, () -> x.who(1, 8, 0));
        due("15 right below 0", ARGUMENT, () -> x.who(1, -1, 0));
        due("15 k below 0", ARGUMENT, () -> x.who(1, 0, -1));
    }

    private static void promise16Where() {
        FolderRights x = freshTree();
        x.entry(1, 0, true, 1, false, 1, DOCUMENTS | FOLDERS);
        x.entry(4, 0, true, 1, false, 1, HERE);
        due("16 first", 2, () -> x.where(1, 0, 0));
        due("16 looks up to that one", 1 << 3, () -> staleBits(x));
        due("16 second", 3, () -> x.where(1, 0, 1));
        due("16 third", 4, () -> x.where(1, 0, 2));
        due("16 there are fewer", NONE, () -> x.where(1, 0, 3));
        due("16 far fewer", NONE, () -> x.where(1, 0, Integer.MAX_VALUE));
        due("16 another right", NONE, () -> x.where(1, 1, 0));
        due("16 the owner", 4, () -> x.where(0, 7, 4));
        x.remove(3);
        due("16 over a gap", 4, () -> x.where(1, 0, 1));
        due("16 no such user", MISSING, () -> x.where(3, 0, 0));
        due("16 no such user below 0", MISSING, () -> x.where(-1, 8, -1));
        due("16 right too great", ARGUMENT, () -> x.where(1, 8, 0));
        due("16 right below 0", ARGUMENT, () -> x.where(1, -1, 0));
        due("16 k below 0", ARGUMENT, () -> x.where(1, 0, -1));
        FolderRights y = tree();
        due("16 nowhere", NONE, () -> y.where(1, 0, 0));
        due("16 looks at all if there are fewer", 0, () -> staleBits(y));
        FolderRights z = tree();
        z.where(0, 7, 1);
        due("16 does not look behind", 0b11100, () -> staleBits(z));
    }

    private static void promise17Same() {
        FolderRights x = tree();
        due("17 nothing differs", true, () -> x.same(3, 4));
        due("17 a node and itself", true, () -> x.same(3, 3));
        x.entry(0, 0, true, 2, false, 128, DOCUMENTS);
        due("17 the same from above", true, () -> x.same(3, 4));
        due("17 a folder has it not", false, () -> x.same(2, 3));
        due("17 the other way round", false, () -> x.same(3, 2));
        x.owner(3, 2);
        due("17 the owners differ", false, () -> x.same(3, 4));
        x.entry(3, 0, true, 0, false, 128, HERE);
        x.entry(4, 0, true, 2, false, 128, HERE);
        due("17 the same by other ways", true, () -> x.same(3, 4));
        x.entry(3, 0, true, 1, false, 1, HERE);
        due("17 right 0 of user 1 differs", false, () -> x.same(3, 4));
        due("17 no such one", MISSING, () -> x.same(5, 0));
        due("17 no such other", MISSING, () -> x.same(0, 5));
        due("17 below 0", MISSING, () -> x.same(0, -1));
    }

    private static void promise18Step() {
        FolderRights x = tree();
        x.rights(0, 1);
        due("18 the least", 0, () -> x.step());
        due("18 the next that is stale", 2, () -> x.step());
        due("18 it is renewed", 0b11000, () -> staleBits(x));
        due("18 the third", 3, () -> x.step());
        due("18 the fourth", 4, () -> x.step());
        due("18 none is", NONE, () -> x.step());
        x.move(4, 1);
        x.block(1, true);
        due("18 the least again", 1, () -> x.step());
        due("18 and on", 2, () -> x.step());
    }

    private static void promise19StaleByEntries() {
        FolderRights x = tree();
        due("19 all at first", 5, () -> x.stale());
        renewAll(x);
        due("19 none", 0, () -> x.stale());
        x.entry(1, 0, true, 1, false, 1, HERE);
        due("19 those below, even if it does not reach them", 0b01100, () -> staleBits(x));
        due("19 how many", 2, () -> x.stale());
        renewAll(x);
        x.dropEntry(1, 0);
        due("19 an entry went", 0b01100, () -> staleBits(x));
        renewAll(x);
        x.entry(3, 0, true, 1, false, 1, HERE);
        due("19 nothing is below a document", 0, () -> x.stale());
        x.block(2, true);
        renewAll(x);
        x.entry(0, 0, true, 1, false, 1, FOLDERS);
        due("19 all below the root, blocked or not", 0b11110, () -> staleBits(x));
    }

    private static void promise19StaleByBlocking() {
        FolderRights x = freshTree();
        x.block(1, true);
        due("19 it and those below", 0b01110, () -> staleBits(x));
        renewAll(x);
        x.block(1, true);
        due("19 only a change", 0, () -> x.stale());
        x.block(1, false);
        due("19 ceased to block", 0b01110, () -> staleBits(x));
        renewAll(x);
        x.block(1, false);
        due("19 only a change back", 0, () -> x.stale());
        x.block(0, true);
        due("19 the root blocks", 0b11111, () -> staleBits(x));
    }

    private static void promise19StaleByMoving() {
        FolderRights x = freshTree();
        x.move(2, 0);
        due("19 it and those below", 0b01100, () -> staleBits(x));
        renewAll(x);
        x.move(2, 0);
        due("19 the same parent counts as moved", 0b01100, () -> staleBits(x));
        renewAll(x);
        x.move(1, 2);
        due("19 not those beside or above", 0b00010, () -> staleBits(x));
    }

    private static void promise19StaleNotByOthers() {
        FolderRights x = freshTree();
        x.group();
        x.user();
        x.join(0, 1, false);
        x.leave(0, 1, false);
        x.owner(1, 2);
        x.in(0, 1);
        x.about(1, 7);
        x.count(2);
        due("19 by nothing else", 0, () -> x.stale());
        x.remove(3);
        due("19 not by remove", 0, () -> x.stale());
        x.node(2, false, 0);
        due("19 a new node alone", 0b01000, () -> staleBits(x));
        x.remove(3);
        due("19 one that is gone is not stale", 0, () -> x.stale());
    }

    private static void promise19RenewedByLooking() {
        FolderRights x = tree();
        x.rights(0, 3);
        due("19 rights renews that node alone", 0b10111, () -> staleBits(x));
        x.explain(0, 2, 7, 0);
        due("19 explain", 0b10011, () -> staleBits(x));
        x.who(4, 0, 0);
        due("19 who", 0b00011, () -> staleBits(x));
        x.same(0, 1);
        due("19 same renews both", 0, () -> staleBits(x));
        FolderRights y = tree();
        y.entry(1, 0, true, 1, false, 1, HERE);
        due("19 they differ", false, () -> y.same(1, 4));
        due("19 same renews both if they differ", 0b01101, () -> staleBits(y));
        y.explain(1, 2, 0, 1);
        due("19 explain if nothing decides", 0b01001, () -> staleBits(y));
        y.owner(0, 1);
        y.stale();
        y.in(y.group(), 1);
        y.about(0, 2);
        due("19 others renew nothing", 0b01001, () -> staleBits(y));
        FolderRights z = tree();
        z.entry(0, 0, true, 1, false, 1, DOCUMENTS);
        due("19 exact though the parents are stale", 1, () -> z.rights(1, 3));
        z.dropEntry(0, 0);
        due("19 exact though it was renewed before", 0, () -> z.rights(1, 3));
    }

    private static void promise19RefusedCallsRenewNothing() {
        FolderRights x = tree();
        due("19 rights refused", MISSING, () -> x.rights(3, 1));
        due("19 explain refused", ARGUMENT, () -> x.explain(0, 1, 8, 0));
        due("19 explain refused, field", ARGUMENT, () -> x.explain(0, 1, 0, 3));
        due("19 who refused", ARGUMENT, () -> x.who(1, 0, -1));
        due("19 who refused, right", ARGUMENT, () -> x.who(1, 8, 0));
        due("19 where refused", ARGUMENT, () -> x.where(0, 0, -1));
        due("19 where refused, right", ARGUMENT, () -> x.where(0, 8, 0));
        due("19 same refused", MISSING, () -> x.same(1, 5));
        due("19 same refused, one", MISSING, () -> x.same(5, 1));
        due("19 all are still stale", 5, () -> x.stale());
    }

    private static void promise20In() {
        FolderRights x = new FolderRights();
        for (int i = 0; i < 23; i++) {
            x.user();
        }
        for (int i = 0; i < 24; i++) {
            x.group();
        }
        for (int i = 23; i > 0; i--) {
            x.join(i - 1, i, true);
        }
        due("20 nobody yet", false, () -> x.in(0, 5));
        x.join(23, 5, false);
        due("20 by a chain of 24", true, () -> x.in(0, 5));
        due("20 at its end", true, () -> x.in(23, 5));
        due("20 another is not", false, () -> x.in(0, 4));
        x.join(12, 4, false);
        due("20 in above the middle", true, () -> x.in(11, 4));
        due("20 not below it", false, () -> x.in(13, 4));
        x.join(3, 20, true);
        x.leave(9, 10, true);
        due("20 by a second way", true, () -> x.in(0, 5));
        due("20 the first way is cut", false, () -> x.in(9, 5));
        x.leave(3, 20, true);
        due("20 no way is left", false, () -> x.in(0, 5));
        due("20 no such group", MISSING, () -> x.in(24, 0));
        due("20 no such group below 0", MISSING, () -> x.in(-1, 0));
        due("20 no such user", MISSING, () -> x.in(0, 24));
        due("20 no such user below 0", MISSING, () -> x.in(0, -1));
        FolderRights y = new FolderRights();
        y.group();
        y.group();
        y.group();
        y.join(1, 0, true);
        y.join(0, 2, true);
        y.join(0, 0, false);
        due("20 by group 0", true, () -> y.in(1, 0));
        y.leave(0, 0, false);
        y.join(2, 0, false);
        due("20 through group 0", true, () -> y.in(1, 0));
    }

    private static void promise21About() {
        FolderRights x = tree();
        x.entry(2, 0, true, 0, false, 1, HERE);
        x.owner(2, 1);
        x.block(2, true);
        x.rights(0, 2);
        int[] folder = {1, 1, 1, 1, 2, 1, 1, 0};
        int[] document = {2, 0, 0, 0, 3, 0, 0, 1};
        int[] root = {NONE, 1, 0, 0, 0, 0, 2, 1};
        for (int what = 0; what < 8; what++) {
            int asked = what;
            due("21 folder, " + what, folder[what], () -> x.about(2, asked));
            due("21 document, " + what, document[what], () -> x.about(3, asked));
            due("21 root, " + what, root[what], () -> x.about(0, asked));
        }
        due("21 none of these", ARGUMENT, () -> x.about(0, 8));
        due("21 none of these, below 0", ARGUMENT, () -> x.about(0, -1));
        due("21 no such node", MISSING, () -> x.about(5, 0));
        due("21 no such node below 0", MISSING, () -> x.about(-1, 0));
        due("21 missing before argument", MISSING, () -> x.about(5, 8));
    }

    private static void promise22Count() {
        FolderRights x = tree();
        x.group();
        x.group();
        x.join(0, 1, true);
        x.join(0, 1, false);
        x.join(1, 1, false);
        x.entry(0, 0, true, 0, false, 1, HERE);
        x.entry(3, 0, true, 0, true, 1, HERE);
        x.entry(3, 0, true, 0, true, 1, HERE);
        due("22 users", 3, () -> x.count(0));
        due("22 groups", 2, () -> x.count(1));
        due("22 nodes", 5, () -> x.count(2));
        due("22 entries", 3, () -> x.count(3));
        due("22 members", 3, () -> x.count(4));
        x.remove(3);
        x.leave(0, 1, false);
        due("22 nodes after remove", 4, () -> x.count(2));
        due("22 entries after remove", 1, () -> x.count(3));
        due("22 members after leave", 2, () -> x.count(4));
        due("22 none of these", ARGUMENT, () -> x.count(5));
        due("22 none of these, below 0", ARGUMENT, () -> x.count(-1));
    }

    private static void refusedCallsChangeNothing() {
        FolderRights x = freshTree();
        x.group();
        x.entry(0, 0, true, 1, false, 1, HERE | FOLDERS | DOCUMENTS);
        renewAll(x);
        due("refused entry", ARGUMENT, () -> x.entry(0, 0, false, 1, false, 1, NEXT));
        due("refused dropEntry", MISSING, () -> x.dropEntry(0, 1));
        due("refused move", ARGUMENT, () -> x.move(1, 2));
        due("refused remove", STATE, () -> x.remove(1));
        due("refused node", ARGUMENT, () -> x.node(3, true, 0));
        due("refused owner", MISSING, () -> x.owner(1, 3));
        due("refused join", STATE, () -> x.join(0, 0, true));
        due("nothing is stale", 0, () -> x.stale());
        due("no node came or went", 5, () -> x.count(2));
        due("no entry came or went", 1, () -> x.count(3));
        due("no member came", 0, () -> x.count(4));
        due("no owner came", 0, () -> x.about(1, 2));
        due("the answer is as before", 1, () -> x.rights(1, 3));
    }
}
