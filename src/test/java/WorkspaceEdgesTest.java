/** Boundary cases that promises 1 to 7 name; the calls that they refuse are in RefusedTest too. */
public final class WorkspaceEdgesTest {
    private static final Edges EDGES = new Edges("WorkspaceEdgesTest");

    public static void main(String[] args) {
        newObject();
        newObjectDecidesNothing();
        openInPlaceOfAnyBefore();
        addANewNode();
        addToAParentThatIsNotAlive();
        addToAFile();
        addWithAName();
        addToAPlaceThatIsTaken();
        addWithoutWorkspace();
        addToTheLastNode();
        drop();
        dropTheRoot();
        dropADirectory();
        dropWithoutWorkspace();
        moveToAnotherPlaceOrTheSame();
        moveTheRoot();
        moveIntoAFile();
        moveWithAName();
        moveToAPlaceThatIsTaken();
        moveIntoItself();
        moveWithoutWorkspace();
        moveToAParentThatIsNotAlive();
        write();
        writeNeither();
        writeTheRoot();
        writeADirectory();
        writeWithoutWorkspace();
        commit();
        commitWithoutWorkspace();
        commitTheTreeOfTheBase();
        commitToTheLastRevision();
        EDGES.end();
    }

    private static void newObject() {
        EDGES.sentence("Promise 1", "As said above; both peers have revision 0, no workspaces");
        EDGES.run("has 0 = {0}; has 1 = {0}; nodes 0 -1 = {}; nodes 1 -1 = {}; nodes 0 0 = {0}; nodes 1 0 = {0}",
            "ancestors 0 = {}; ancestors 1 = throws.NoSuchElement; commit 0 = throws.IllegalState",
            "conflict 0 0 0 = throws.IllegalArgument; conflict 1 0 0 = throws.IllegalArgument",
            "bury 0 1 true = throws.NoSuchElement; decide 0 1 0 0 = throws.NoSuchElement");
    }

    private static void newObjectDecidesNothing() {
        EDGES.sentence("Promise 1", "nothing decided or buried");
        String conflicts = "open 0 0; add 0 0 0 false; add 0 0 1 false; commit 0; move 0 1 0 2; write 0 1 1 2;"
            + "write 0 1 2 2; commit 0; open 0 1; move 0 1 0 3; write 0 1 1 3; write 0 1 2 3; commit 0;"
            + "certify 0 2 0 0; certify 0 3 0 0; exchange 0 = 5";
        EDGES.run(conflicts, "merge 0 2 3 = -3; merge 1 2 3 = -3; merge 1 3 2 = -3",
            Edges.each(0, 2, "decide 1 1 # 0"), "merge 1 2 3 = 4; nodes 1 4 = {0 1 2}");
    }

    private static void openInPlaceOfAnyBefore() {
        EDGES.sentence("Promise 2", "The peer's workspace is revision r with its tree, in place of any before.");
        EDGES.run("open 1 0; nodes 1 -1 = {0}; add 1 0 0 true = 1; add 1 1 0 false = 2; write 1 2 1 4; open 1 0",
            "nodes 1 -1 = {0}; commit 1 = throws.IllegalState; drop 1 2 = throws.NoSuchElement",
            "add 1 0 0 false = 3; commit 1 = 1; write 1 3 1 7; open 1 1; commit 1 = throws.IllegalState",
            "write 1 3 2 7; commit 1 = 2; about 2 3 2 = 0; about 2 3 3 = 7; nodes 1 2 = {0 3}",
            "open 1 0; add 1 0 0 false = 4; commit 1 = 3; ancestors 3 = {0}; nodes 1 3 = {0 4}");
        EDGES.run("open 0 0; add 0 0 0 false", Edges.each(1, 39, "write 0 1 2 #; commit 0 = #"),
            "open 0 32; write 0 1 2 32; commit 0 = throws.IllegalState; open 0 39; nodes 0 -1 = {0 1}",
            "open 0 40 = throws.NoSuchElement; open 1 39 = throws.NoSuchElement; nodes 1 -1 = {}");
    }

    private static void addANewNode() {
        EDGES.sentence("Promise 3", "A new node in the peer's workspace, with content and attribute 0: its number.");
        EDGES.run("open 0 0; add 0 0 0 false = 1; write 0 1 1 5; write 0 1 2 5; drop 0 1; add 0 0 0 false = 2",
            "commit 0; nodes 0 1 = {0 2}; about 1 2 2 = 0; about 1 2 3 = 0; about 1 2 4 = 1; nodes 1 -1 = {}");
        // What lies in the rows of a tree that was there before is not the new node's.
        EDGES.run("open 0 0; add 0 0 0 true = 1; write 0 1 2 9; commit 0; open 0 0; open 1 0; add 1 0 0 false = 2",
            "commit 1; about 2 2 2 = 0; about 2 2 3 = 0; about 2 2 5 = 0; nodes 1 2 = {0 2}");
    }

    private static void addToAParentThatIsNotAlive() {
        EDGES.sentence("Promise 3", "NoSuchElementException also if parent is not alive there.");
        EDGES.run("open 0 0; open 1 0; add 0 0 0 true = 1; add 1 1 0 false = throws.NoSuchElement",
            "add 0 2 0 false = throws.NoSuchElement; drop 0 1; add 0 1 0 false = throws.NoSuchElement",
            "add 0 -1 0 false = throws.NoSuchElement; add 0 16 0 false = throws.NoSuchElement",
            "add 0 32 0 false = throws.NoSuchElement; add 0 64 0 false = throws.NoSuchElement; add 0 0 0 true = 2");
    }

    private static void addToAFile() {
        EDGES.sentence("Promise 3", "IllegalArgumentException: parent is a file");
        EDGES.run("open 0 0; add 0 0 0 false = 1; add 0 1 0 false = throws.IllegalArgument",
            "add 0 1 0 true = throws.IllegalArgument; nodes 0 -1 = {0 1}; add 0 0 1 true = 2; add 0 2 0 true = 3");
    }

    private static void addWithAName() {
        EDGES.sentence("Promise 3", "name is not 0 .. 9");
        EDGES.run("open 0 0; add 0 0 0 true = 1; add 0 0 9 true = 2; add 0 0 10 true = throws.IllegalArgument",
            "add 0 0 -1 true = throws.IllegalArgument; add 0 1 -1 true = throws.IllegalArgument",
            "add 0 1 -2 true = throws.IllegalArgument; add 0 0 11 true = throws.IllegalArgument",
            "add 0 0 min true = throws.IllegalArgument; add 0 2 max true = throws.IllegalArgument; add 0 1 0 true = 3");
    }

    private static void addToAPlaceThatIsTaken() {
        EDGES.sentence("Promise 3", "or a node has that place");
        EDGES.run("open 0 0; add 0 0 3 true = 1; add 0 0 3 true = throws.IllegalArgument; add 0 1 3 false = 2",
            "add 0 1 3 true = throws.IllegalArgument; move 0 2 1 4; add 0 1 3 false = 3; drop 0 3",
            "add 0 1 3 false = 4; open 1 0; add 1 0 3 false = 5");
    }

    private static void addWithoutWorkspace() {
        EDGES.sentence("Promise 3", "IllegalStateException: the peer has no workspace"
            + " (this one is looked at ahead of all but the peer)");
        EDGES.run("add 0 0 0 true = throws.IllegalState; add 0 1 0 true = throws.IllegalState",
            "add 0 0 10 true = throws.IllegalState; add 0 -1 -1 true = throws.IllegalState",
            "add -1 0 0 true = throws.NoSuchElement; add 2 -1 -1 true = throws.NoSuchElement",
            "open 1 0; add 0 0 0 true = throws.IllegalState; open 0 0; add 0 0 0 true = 1");
    }

    private static void addToTheLastNode() {
        EDGES.sentence("Promise 3", "or there are 16 nodes");
        EDGES.run("open 0 0; open 1 0", Edges.each(0, 9, "add 0 0 # true"), "add 0 1 0 true = 11; add 0 1 1 true = 12",
            "add 0 1 2 true = 13; add 0 1 3 true = 14; add 0 1 4 false = 15; add 0 1 5 false = throws.IllegalState",
            "add 1 0 0 true = throws.IllegalState; add 0 15 0 true = throws.IllegalArgument",
            "drop 0 15; add 0 1 4 false = throws.IllegalState; open 0 0; add 0 0 0 true = throws.IllegalState");
    }

    private static void drop() {
        EDGES.sentence("Promise 4", "Takes a node out of the peer's workspace.");
        EDGES.run(Edges.PLANTED, "drop 0 5; nodes 0 -1 = {0..4}; nodes 0 1 = {0..5}; drop 0 5 = throws.NoSuchElement",
            Edges.each(1, 4, "drop 0 #"), "nodes 0 -1 = {0}; commit 0 = 2; nodes 0 2 = {0}");
        EDGES.run("open 0 0", Edges.each(0, 9, "add 0 0 # true"), Edges.each(0, 4, "add 0 1 # true"), "drop 0 15",
            "nodes 0 -1 = {0..14}; drop 0 16 = throws.NoSuchElement; drop 0 15 = throws.NoSuchElement");
    }

    private static void dropTheRoot() {
        EDGES.sentence("Promise 4", "IllegalArgumentException: it is the root");
        EDGES.run("open 0 0; drop 0 0 = throws.IllegalArgument; add 0 0 0 true; drop 0 0 = throws.IllegalArgument",
            "nodes 0 -1 = {0 1}");
    }

    private static void dropADirectory() {
        EDGES.sentence("Promise 4", "or a directory with a node in it");
        EDGES.run(Edges.PLANTED, "move 0 1 2 0; move 0 4 1 0; drop 0 1 = throws.IllegalArgument",
            "drop 0 2 = throws.IllegalArgument; nodes 0 -1 = {0..5}; move 0 4 0 4; drop 0 1; drop 0 2",
            "nodes 0 -1 = {0 3 4 5}");
        // A node in it in the other peer's workspace, or in the base alone, does not count.
        EDGES.run(Edges.PLANTED, "certify 0 1 0 0; exchange 0; open 1 1; add 1 3 0 false = 6; drop 0 3",
            "drop 1 3 = throws.IllegalArgument; commit 1 = 2; open 1 2; drop 1 6; drop 1 3; nodes 1 -1 = {0 1 2 4 5}");
    }

    private static void dropWithoutWorkspace() {
        EDGES.sentence("Promise 4", "IllegalStateException: the peer has no workspace"
            + " (looked at ahead of all but the peer).");
        EDGES.run("drop 0 1 = throws.IllegalState; drop 0 0 = throws.IllegalState; drop 0 -1 = throws.IllegalState",
            "drop 2 1 = throws.NoSuchElement; open 0 0; drop 0 1 = throws.NoSuchElement; drop 1 1 = throws.IllegalState");
    }

    private static void moveToAnotherPlaceOrTheSame() {
        EDGES.sentence("Promise 5", "A node of the peer's workspace gets another place (or the same).");
        EDGES.run(Edges.PLANTED, "move 0 4 0 4; move 0 1 0 1; commit 0 = throws.IllegalState; move 0 4 0 0",
            "commit 0 = 2; about 2 4 0 = 0; about 2 4 1 = 0; move 0 4 3 0; commit 0 = 3; about 3 4 0 = 3",
            "about 3 4 1 = 0; move 0 5 3 9; commit 0 = 4; about 4 5 0 = 3; about 4 5 1 = 9; move 0 4 3 0; move 0 4 0 4",
            "commit 0 = 5; about 5 4 0 = 0; about 5 4 1 = 4; about 1 4 1 = 4");
        // A directory takes what is in it along, and may stay in the directory that it is in.
        EDGES.run(Edges.PLANTED, "move 0 2 1 0; move 0 3 2 0; move 0 2 1 5; move 0 2 0 0; commit 0 = 2",
            "about 2 2 0 = 0; about 2 3 0 = 2; move 0 3 2 1; move 0 1 3 1; commit 0 = 3; about 3 1 0 = 3");
    }

    private static void moveTheRoot() {
        EDGES.sentence("Promise 5", "IllegalArgumentException: it is the root");
        EDGES.run(Edges.PLANTED, "move 0 0 1 0 = throws.IllegalArgument; move 0 0 0 0 = throws.IllegalArgument",
            "move 0 0 0 10 = throws.IllegalArgument; commit 0 = throws.IllegalState");
    }

    private static void moveIntoAFile() {
        EDGES.sentence("Promise 5", "parent is a file");
        EDGES.run(Edges.PLANTED, "move 0 4 5 0 = throws.IllegalArgument; move 0 1 5 0 = throws.IllegalArgument",
            "move 0 4 4 0 = throws.IllegalArgument; commit 0 = throws.IllegalState; move 0 4 3 0; commit 0 = 2");
    }

    private static void moveWithAName() {
        EDGES.sentence("Promise 5", "name is not 0 .. 9");
        EDGES.run(Edges.PLANTED, "move 0 4 0 0; move 0 4 0 9; move 0 4 0 10 = throws.IllegalArgument",
            "move 0 4 0 -1 = throws.IllegalArgument; move 0 4 1 -1 = throws.IllegalArgument",
            "move 0 4 1 min = throws.IllegalArgument; move 0 4 1 max = throws.IllegalArgument; commit 0 = 2",
            "about 2 4 0 = 0; about 2 4 1 = 9");
    }

    private static void moveToAPlaceThatIsTaken() {
        EDGES.sentence("Promise 5", "another node has that place");
        EDGES.run(Edges.PLANTED, "move 0 4 0 5 = throws.IllegalArgument; move 0 5 0 4 = throws.IllegalArgument",
            "move 0 4 0 4; move 0 4 0 0; move 0 5 0 4; move 0 4 0 5; commit 0 = 2; about 2 4 1 = 5; about 2 5 1 = 4",
            "drop 0 1; move 0 4 0 1; commit 0 = 3; about 3 4 1 = 1");
    }

    private static void moveIntoItself() {
        EDGES.sentence("Promise 5", "or parent is the node or lies in it at any depth");
        EDGES.run(Edges.PLANTED, "move 0 1 1 0 = throws.IllegalArgument; move 0 2 1 0; move 0 3 2 0",
            "move 0 1 1 5 = throws.IllegalArgument; move 0 1 2 5 = throws.IllegalArgument",
            "move 0 1 3 5 = throws.IllegalArgument; move 0 2 3 5 = throws.IllegalArgument; move 0 2 1 5; move 0 3 1 4",
            "move 0 2 3 5; commit 0 = 2; about 2 2 0 = 3; about 2 3 0 = 1; about 2 1 0 = 0");
        EDGES.run("open 0 0", Edges.each(0, 14, "add 0 # 0 true"), Edges.each(2, 15, "move 0 2 # 1 = throws.IllegalArgument"),
            "move 0 2 1 1; move 0 15 0 1; move 0 2 15 0; commit 0; about 1 2 0 = 15");
    }

    private static void moveWithoutWorkspace() {
        EDGES.sentence("Promise 5", "IllegalStateException as with drop().");
        EDGES.run("move 0 1 0 0 = throws.IllegalState; move 0 0 0 0 = throws.IllegalState",
            "move 0 9 9 10 = throws.IllegalState; move -1 1 0 0 = throws.NoSuchElement");
    }

    private static void moveToAParentThatIsNotAlive() {
        EDGES.sentence("Promise 5", "NoSuchElementException also if parent is not alive there.");
        EDGES.run(Edges.PLANTED, "drop 0 3; move 0 4 3 0 = throws.NoSuchElement; move 0 3 0 0 = throws.NoSuchElement",
            "move 0 0 3 0 = throws.NoSuchElement; move 0 4 6 0 = throws.NoSuchElement",
            "move 0 4 -1 10 = throws.NoSuchElement; move 0 4 32 0 = throws.NoSuchElement",
            "move 0 32 0 0 = throws.NoSuchElement; certify 0 1 0 0; exchange 0; open 1 1; move 1 4 3 0; commit 1 = 2");
    }

    private static void write() {
        EDGES.sentence("Promise 6", "A node of the peer's workspace gets a content (which = 1) or an attribute (which = 2).");
        EDGES.run(Edges.PLANTED, "write 0 4 1 0; write 0 4 2 0; commit 0 = throws.IllegalState; write 0 4 1 min",
            "commit 0 = 2; about 2 4 2 = min; about 2 4 3 = 0; write 0 4 2 max; commit 0 = 3; about 3 4 2 = min",
            "about 3 4 3 = max; about 3 4 0 = 0; about 3 4 1 = 4; about 3 5 2 = 0; about 1 4 2 = 0",
            "write 0 6 1 0 = throws.NoSuchElement; drop 0 4; write 0 4 1 0 = throws.NoSuchElement");
    }

    private static void writeNeither() {
        EDGES.sentence("Promise 6", "IllegalArgumentException: which is neither");
        EDGES.run(Edges.PLANTED, "write 0 4 0 1 = throws.IllegalArgument; write 0 4 3 1 = throws.IllegalArgument",
            "write 0 4 -1 1 = throws.IllegalArgument; write 0 4 max 1 = throws.IllegalArgument",
            "write 0 4 min 1 = throws.IllegalArgument; write 0 4 33 1 = throws.IllegalArgument",
            "commit 0 = throws.IllegalState");
    }

    private static void writeTheRoot() {
        EDGES.sentence("Promise 6", "the node is the root");
        EDGES.run("open 0 0; write 0 0 1 0 = throws.IllegalArgument; write 0 0 2 5 = throws.IllegalArgument",
            "add 0 0 0 true; commit 0; about 1 0 3 = 0");
    }

    private static void writeADirectory() {
        EDGES.sentence("Promise 6", "or it is a directory and which is 1");
        EDGES.run(Edges.PLANTED, "write 0 3 1 5 = throws.IllegalArgument; write 0 3 1 0 = throws.IllegalArgument",
            "write 0 3 2 5; write 0 4 1 6; commit 0; about 2 3 2 = 0; about 2 3 3 = 5; about 2 4 2 = 6");
    }

    private static void writeWithoutWorkspace() {
        EDGES.sentence("Promise 6", "IllegalStateException as with drop().");
        EDGES.run("write 0 1 1 0 = throws.IllegalState; write 0 0 1 0 = throws.IllegalState",
            "write 1 9 9 0 = throws.IllegalState; write 2 9 9 0 = throws.NoSuchElement");
    }

    private static void commit() {
        EDGES.sentence("Promise 7", "The peer's workspace becomes the tree of a new revision with its base as parent,"
            + " which the peer has and which is the base then: its number.");
        EDGES.run(Edges.PLANTED, "write 0 4 1 5; commit 0 = 2; ancestors 2 = {0 1}; has 0 = {0..2}; has 1 = {0}",
            "nodes 0 -1 = {0..5}; write 0 4 1 6; commit 0 = 3; ancestors 3 = {0..2}; about 2 4 2 = 5; about 3 4 2 = 6",
            "open 0 1; write 0 4 1 7; commit 0 = 4; ancestors 4 = {0 1}");
    }

    private static void commitWithoutWorkspace() {
        EDGES.sentence("Promise 7", "IllegalStateException: the peer has no workspace");
        EDGES.run("commit 0 = throws.IllegalState; commit 1 = throws.IllegalState; open 0 0; add 0 0 0 true",
            "commit 1 = throws.IllegalState; commit 2 = throws.NoSuchElement; commit 0 = 1");
    }

    private static void commitTheTreeOfTheBase() {
        EDGES.sentence("Promise 7", "its tree is that of the base");
        EDGES.run("open 0 0; commit 0 = throws.IllegalState; add 0 0 0 true; drop 0 1; commit 0 = throws.IllegalState",
            "add 0 0 0 true = 2; commit 0 = 1; commit 0 = throws.IllegalState; drop 0 2; add 0 0 0 true = 3",
            "commit 0 = 2; nodes 0 2 = {0 3}");
        // The tree of a revision that is not the base is a change.
        EDGES.run("open 0 0; add 0 0 0 false; commit 0; drop 0 1; commit 0 = 2; nodes 0 2 = {0}; open 0 1; write 0 1 1 5",
            "commit 0 = 3; write 0 1 1 0; commit 0 = 4; marks 4 1 1 = {4}; open 0 4; commit 0 = throws.IllegalState");
        // Each scalar of the last node that there can be is a change.
        EDGES.run("open 0 0", Edges.each(0, 9, "add 0 0 # true"), Edges.each(0, 4, "add 0 1 # false"), "commit 0",
            "move 0 15 1 9; commit 0 = 2; write 0 15 1 1; commit 0 = 3; write 0 15 2 1; commit 0 = 4",
            "commit 0 = throws.IllegalState; drop 0 15; commit 0 = 5");
    }

    private static void commitToTheLastRevision() {
        EDGES.sentence("Promise 7", "or there are 40 revisions");
        EDGES.run("open 0 0; add 0 0 0 false", Edges.each(1, 38, "write 0 1 2 #; commit 0 = #"),
            "open 1 0; add 1 0 0 false; commit 1 = 39; write 1 2 1 1; commit 1 = throws.IllegalState",
            "write 0 1 2 0; commit 0 = throws.IllegalState; has 0 = {0..38}; has 1 = {0 39}; nodes 1 -1 = {0 2}",
            "marks 39 2 1 = {39}; ancestors 39 = {0}");
    }
}
