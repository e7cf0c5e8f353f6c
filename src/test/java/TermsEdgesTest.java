/** Boundary cases that "What it is" and the Terms name, but for those of merges and of branches. */
public final class TermsEdgesTest {
    private static final Edges EDGES = new Edges("TermsEdgesTest");

    public static void main(String[] args) {
        callsToTheLast();
        peers();
        revisionNumbers();
        parents();
        ancestorsOfAncestors();
        hasAtFirst();
        nodeNumbers();
        rootIsDirectory();
        rootIsAlways();
        names();
        contents();
        contentsOfDirectories();
        attributes();
        parentsAreAliveDirectories();
        placesAreDifferent();
        waysToTheRoot();
        revisionZero();
        rootHasNoMarks();
        births();
        marksOfNewNodes();
        marksOfOtherValues();
        marksOfOldValues();
        workspaces();
        firstException();
        nothingChanged();
        anyRevisionIsOne();
        EDGES.end();
    }

    private static void callsToTheLast() {
        EDGES.sentence("What it is", "An object is used for at most 512 calls after it has been made");
        EDGES.run("open 0 0; add 0 0 0 false = 1", Edges.each(1, 508, "write 0 1 1 #"),
            "commit 0 = 1; about 1 1 2 = 508");
        EDGES.run(Edges.each(1, 511, "has 1 = {0}"), "certify 1 0 3 2 = true");
        EDGES.run(Edges.each(1, 511, "open 0 # = throws.NoSuchElement"), "has 0 = {0}");
    }

    private static void peers() {
        EDGES.sentence("Terms", "PEERS are 0 and 1.");
        EDGES.run("has 0 = {0}; has 1 = {0}; has -1 = throws.NoSuchElement; has 2 = throws.NoSuchElement",
            "has min = throws.NoSuchElement; has max = throws.NoSuchElement");
    }

    private static void revisionNumbers() {
        EDGES.sentence("Terms", "REVISIONS have numbers 0, 1, .. in the order of their making, by whichever peer,"
            + " at most 40.");
        StringBuilder rows = new StringBuilder("open 0 0; open 1 0; add 0 0 0 false = 1; add 1 0 0 false = 2");
        for (int r = 1; r < 40; r++) {
            int peer = r % 3 == 0 ? 0 : 1;
            rows.append("; write ").append(peer).append(' ').append(peer + 1).append(" 2 ").append(r);
            rows.append("; commit ").append(peer).append(" = ").append(r);
        }
        EDGES.run(rows.toString(), "write 0 1 2 99; commit 0 = throws.IllegalState",
            "write 1 2 2 99; commit 1 = throws.IllegalState",
            "has 0 = {0 3 6 9 12 15 18 21 24 27 30 33 36 39}; ancestors 39 = {0 3 6 9 12 15 18 21 24 27 30 33 36}",
            "ancestors 40 = throws.NoSuchElement; nodes 0 40 = throws.NoSuchElement; nodes 0 39 = {0 1}");
        EDGES.run("open 0 0; add 0 0 0 false", Edges.each(1, 36, "write 0 1 2 #; commit 0 = #"),
            "open 0 36; write 0 1 1 1; commit 0 = 37; open 0 36; add 0 0 1 false; commit 0 = 38",
            "merge 0 37 38 = 39; merge 0 38 37 = throws.IllegalState; ancestors 39 = {0..38}");
    }

    private static void parents() {
        EDGES.sentence("Terms", "Revision 0 has no PARENTS, each other one has one or two.");
        EDGES.run("ancestors 0 = {}; open 0 0; add 0 0 0 false; commit 0 = 1; ancestors 1 = {0}",
            "open 0 0; add 0 0 1 false; commit 0 = 2; ancestors 2 = {0}; merge 0 1 2 = 3; ancestors 3 = {0 1 2}");
    }

    private static void ancestorsOfAncestors() {
        EDGES.sentence("Terms", "An ANCESTOR of a revision is a parent of it or an ancestor of a parent.");
        EDGES.run("open 0 0; add 0 0 0 false", Edges.each(1, 39, "write 0 1 2 #; commit 0 = #"),
            "ancestors 1 = {0}; ancestors 31 = {0..30}; ancestors 32 = {0..31}; ancestors 33 = {0..32}",
            "ancestors 38 = {0..37}; ancestors 39 = {0..38}");
    }

    private static void hasAtFirst() {
        EDGES.sentence("Terms", "A peer HAS some revisions (0 at first), and with each its ancestors.");
        EDGES.run("has 0 = {0}; has 1 = {0}; open 0 0; add 0 0 0 false; commit 0; write 0 1 1 1; commit 0",
            "write 0 1 1 2; commit 0 = 3; open 0 0; add 0 0 1 false; commit 0 = 4; has 0 = {0..4}; has 1 = {0}",
            "certify 0 3 0 0; exchange 0 = 4; has 1 = {0..3}; nodes 1 1 = {0 1}; nodes 1 4 = throws.NoSuchElement");
    }

    private static void nodeNumbers() {
        EDGES.sentence("Terms", "NODES have numbers 0, 1, .. in the order in which they were added, at most 16");
        EDGES.run("open 0 0; open 1 0; add 0 0 0 true = 1; add 1 0 0 true = 2; add 0 1 0 false = 3",
            "add 1 2 0 false = 4", Edges.each(5, 9, "add 0 1 # true = #"), "open 0 0",
            Edges.each(1, 6, "add 1 0 # true"), "nodes 1 -1 = {0 2 4 10..15}",
            "add 1 0 9 true = throws.IllegalState; add 0 0 0 false = throws.IllegalState",
            "drop 1 15; add 1 0 6 true = throws.IllegalState; nodes 1 -1 = {0 2 4 10..14}",
            "decide 0 15 2 1; decide 0 16 2 1 = throws.NoSuchElement");
    }

    private static void rootIsDirectory() {
        EDGES.sentence("Terms", "0 is the ROOT, a directory");
        EDGES.run("about 0 0 5 = 1; open 0 0; nodes 0 -1 = {0}; add 0 0 9 true = 1; commit 0; about 1 0 5 = 1",
            "about 1 1 0 = 0");
    }

    private static void rootIsAlways() {
        EDGES.sentence("Terms", "A TREE is the set of nodes that are ALIVE in it (the root always)");
        EDGES.run("open 0 0; add 0 0 0 false; commit 0; drop 0 1; nodes 0 -1 = {0}; commit 0 = 2; nodes 0 2 = {0}",
            "about 2 0 5 = 1; open 0 0; add 0 0 1 false; commit 0 = 3; bury 0 2 true; merge 0 2 3 = 4",
            "nodes 0 4 = {0}; about 4 0 0 = -1; about 4 1 0 = throws.NoSuchElement");
    }

    private static void names() {
        EDGES.sentence("Terms", "scalar 0 PLACE: a parent directory and a name 0 .. 9");
        EDGES.run("open 0 0", Edges.each(0, 9, "add 0 0 # true"), "nodes 0 -1 = {0..10}",
            Edges.each(-1, 10, "add 0 0 # false = throws.IllegalArgument"),
            "move 0 1 0 0; move 0 1 0 -1 = throws.IllegalArgument",
            Edges.each(1, 10, "move 0 1 0 # = throws.IllegalArgument"),
            "add 0 10 0 false = 11; add 0 10 9 false = 12; commit 0 = 1; about 1 1 1 = 0; about 1 10 1 = 9",
            "about 1 11 1 = 0; about 1 12 1 = 9; about 1 12 0 = 10");
    }

    private static void contents() {
        EDGES.sentence("Terms", "1 CONTENT: an int");
        EDGES.run("open 0 0; add 0 0 0 false; write 0 1 1 min; commit 0; about 1 1 2 = min",
            "write 0 1 1 max; commit 0; about 2 1 2 = max; write 0 1 1 -1; commit 0; about 3 1 2 = -1",
            "write 0 1 1 0; commit 0; about 4 1 2 = 0; about 1 1 2 = min");
        // Where values are compared, the ends of the int's range are far apart.
        EDGES.run("open 0 0; add 0 0 0 false; commit 0; write 0 1 1 min; commit 0; open 0 1; write 0 1 1 max; commit 0",
            "merge 0 2 3 = -1; decide 0 1 1 0; merge 0 2 3 = 4; about 4 1 2 = min",
            "decide 0 1 1 1; merge 0 2 3 = 5; about 5 1 2 = max");
    }

    private static void contentsOfDirectories() {
        EDGES.sentence("Terms", "(0 for directories)");
        EDGES.run("open 0 0; add 0 0 0 true; write 0 1 1 0 = throws.IllegalArgument",
            "write 0 1 1 5 = throws.IllegalArgument; write 0 1 2 5; commit 0; about 1 1 2 = 0; marks 1 1 1 = {1}",
            "about 1 0 2 = 0");
    }

    private static void attributes() {
        EDGES.sentence("Terms", "2 ATTRIBUTE: an int.");
        EDGES.run("open 0 0; add 0 0 0 false; add 0 0 1 true; write 0 1 2 min; write 0 2 2 max; commit 0",
            "about 1 1 3 = min; about 1 2 3 = max; write 0 1 2 -1; write 0 2 2 0; commit 0",
            "about 2 1 3 = -1; about 2 2 3 = 0");
    }

    private static void parentsAreAliveDirectories() {
        EDGES.sentence("Terms", "In a tree that is GOOD every parent is an alive directory");
        EDGES.run("open 0 0; add 0 0 0 true; add 0 1 0 false; drop 0 1 = throws.IllegalArgument",
            "add 0 2 0 false = throws.IllegalArgument; drop 0 2; drop 0 1; add 0 1 0 true = throws.NoSuchElement",
            "nodes 0 -1 = {0}");
        EDGES.run(Edges.PLANTED, "drop 0 1; commit 0; open 0 1; move 0 4 1 0; commit 0",
            "merge 0 2 3 = -1; conflict 0 0 0 = 4; conflict 0 0 1 = 3; has 0 = {0..3}");
    }

    private static void placesAreDifferent() {
        EDGES.sentence("Terms", "no two nodes have the same place");
        EDGES.run("open 0 0; add 0 0 0 true; add 0 0 0 false = throws.IllegalArgument; add 0 1 0 false = 2",
            "move 0 2 0 0 = throws.IllegalArgument; move 0 2 0 1; drop 0 2; add 0 0 1 false = 3");
        EDGES.run("open 0 0; add 0 0 0 true; commit 0; open 0 0; add 0 0 0 false; commit 0; merge 0 1 2 = -1",
            "conflict 0 0 0 = 2; conflict 0 0 1 = 4; has 0 = {0..2}");
    }

    private static void waysToTheRoot() {
        EDGES.sentence("Terms", "from every\nnode one comes to the root by going to parents again and again");
        EDGES.run("open 0 0", Edges.each(0, 14, "add 0 # 9 true"), "nodes 0 -1 = {0..15}",
            Edges.each(1, 15, "move 0 1 # 0 = throws.IllegalArgument"),
            Edges.each(8, 15, "move 0 8 # 0 = throws.IllegalArgument"), "commit 0 = 1; about 1 15 0 = 14",
            "about 1 1 0 = 0; move 0 15 0 0; move 0 1 15 0; commit 0 = 2; about 2 1 0 = 15; about 2 14 0 = 13");
    }

    private static void revisionZero() {
        EDGES.sentence("Terms", "that of revision 0 is the root alone");
        EDGES.run("nodes 0 0 = {0}; nodes 1 0 = {0}; about 0 0 0 = -1; about 0 1 0 = throws.NoSuchElement",
            "open 0 0; add 0 0 0 true; commit 0; nodes 0 0 = {0}; about 0 1 0 = throws.NoSuchElement");
    }

    private static void rootHasNoMarks() {
        EDGES.sentence("Terms", "each scalar of each node alive in the tree of a revision, but the root's,"
            + " has a set of revisions");
        EDGES.run("open 0 0; add 0 0 0 true; commit 0", Edges.each(0, 2, "marks 1 1 # = {1}"),
            Edges.each(0, 2, "marks 1 0 # = throws.IllegalArgument"),
            Edges.each(0, 2, "marks 0 1 # = throws.NoSuchElement"));
    }

    private static void births() {
        EDGES.sentence("Terms", "The BIRTH of a node is the revision that it was new in.");
        EDGES.run("open 0 0; open 1 0; add 0 0 0 false = 1; add 1 0 0 false = 2; commit 1 = 1; commit 0 = 2",
            "about 1 2 4 = 1; about 2 1 4 = 2; write 0 1 1 5; commit 0 = 3; about 3 1 4 = 2; about 3 0 4 = 0");
        EDGES.run("open 0 0; add 0 0 0 false", Edges.each(1, 38, "write 0 1 2 #; commit 0 = #"),
            "add 0 0 1 false = 2; commit 0 = 39; about 39 2 4 = 39; about 39 1 4 = 1");
    }

    private static void marksOfNewNodes() {
        EDGES.sentence("Terms", "In a revision r with one parent p: of a node new in it, r alone");
        EDGES.run("open 0 0; add 0 0 0 false", Edges.each(1, 38, "write 0 1 2 #; commit 0 = #"),
            "add 0 0 1 true; write 0 2 2 3; commit 0 = 39", Edges.each(0, 2, "marks 39 2 # = {39}"));
    }

    private static void marksOfOtherValues() {
        EDGES.sentence("Terms", "of a value other than that in p, r alone");
        EDGES.run("open 0 0; add 0 0 0 true; add 0 0 1 false; commit 0; move 0 2 0 2; commit 0 = 2",
            "marks 2 2 0 = {2}; marks 2 2 1 = {1}; marks 2 2 2 = {1}; move 0 2 1 2; commit 0 = 3",
            "marks 3 2 0 = {3}; write 0 2 1 1; commit 0 = 4; marks 4 2 1 = {4}; marks 4 2 0 = {3}",
            "write 0 2 1 0; commit 0 = 5; marks 5 2 1 = {5}; write 0 2 2 min; commit 0 = 6; marks 6 2 2 = {6}");
        // A revision beyond 31 does not fit into an int's bits, nor is its value in the first of them.
        EDGES.run("open 0 0; add 0 0 0 false", Edges.each(1, 39, "write 0 1 2 #; commit 0 = #"),
            Edges.each(30, 39, "marks # 1 2 = {#}"));
    }

    private static void marksOfOldValues() {
        EDGES.sentence("Terms", "otherwise as in p");
        EDGES.run("open 0 0; add 0 0 0 true; add 0 0 1 false; commit 0; move 0 2 1 5; write 0 2 1 8; write 0 2 2 8",
            "move 0 2 0 1; write 0 2 1 0; write 0 2 2 0; commit 0 = throws.IllegalState; write 0 1 2 1; commit 0 = 2",
            Edges.each(0, 2, "marks 2 2 # = {1}"), "marks 2 1 2 = {2}; marks 2 1 0 = {1}");
        EDGES.run("open 0 0; add 0 0 0 false; commit 0; write 0 1 1 8; commit 0; open 0 1; write 0 1 1 8; commit 0",
            "merge 0 2 3 = 4; marks 4 1 1 = {2 3}; open 0 4; write 0 1 2 1; commit 0 = 5; marks 5 1 1 = {2 3}");
    }

    private static void workspaces() {
        EDGES.sentence("Terms", "A WORKSPACE of a peer (at most one, none at first) is a BASE revision and a good tree.");
        EDGES.run("nodes 0 -1 = {}; nodes 1 -1 = {}; open 0 0; nodes 0 -1 = {0}; nodes 1 -1 = {}; add 0 0 0 true",
            "commit 0; open 0 0; nodes 0 -1 = {0}; open 0 1; nodes 0 -1 = {0 1}; open 1 0; nodes 0 -1 = {0 1}");
    }

    private static void firstException() {
        EDGES.sentence("Terms", "EXCEPTIONS: a call ends by the first of these that holds");
        EDGES.run("open 0 0; add 0 0 0 false = 1; add 0 1 10 false = throws.IllegalArgument",
            "add 0 2 10 false = throws.NoSuchElement; move 0 0 2 10 = throws.NoSuchElement",
            "write 0 2 0 0 = throws.NoSuchElement; decide 0 2 3 2 = throws.NoSuchElement",
            "merge 0 1 1 = throws.NoSuchElement; conflict 2 0 2 = throws.NoSuchElement",
            "about 0 1 6 = throws.NoSuchElement; marks 0 1 3 = throws.NoSuchElement",
            "add 1 2 10 false = throws.IllegalState; add 2 2 10 false = throws.NoSuchElement");
        EDGES.run("open 0 0", Edges.each(0, 9, "add 0 0 # true"), Edges.each(0, 4, "add 0 1 # true"),
            "add 0 16 0 true = throws.NoSuchElement; add 0 0 10 true = throws.IllegalArgument",
            "add 0 0 0 true = throws.IllegalArgument; add 0 1 5 true = throws.IllegalState");
        EDGES.run("open 0 0; add 0 0 0 false", Edges.each(1, 39, "write 0 1 2 #; commit 0 = #"),
            "merge 0 40 40 = throws.NoSuchElement; merge 0 39 39 = throws.IllegalArgument",
            "merge 0 39 1 = throws.IllegalArgument; merge 1 39 1 = throws.NoSuchElement");
    }

    private static void nothingChanged() {
        // RefusedTest looks at every call that the document refuses, and at all that can be told after it.
        EDGES.sentence("Terms", "Such a call changes nothing, and uses no numbers.");
        EDGES.run("open 0 0; add 0 0 10 false = throws.IllegalArgument; add 0 1 0 false = throws.NoSuchElement",
            "commit 0 = throws.IllegalState; nodes 0 -1 = {0}; add 0 0 0 false = 1",
            "add 0 0 0 true = throws.IllegalArgument; add 0 1 0 false = throws.IllegalArgument; add 0 0 1 true = 2",
            "commit 0 = 1; commit 0 = throws.IllegalState; merge 0 1 0 = throws.IllegalArgument; drop 0 1; commit 0 = 2");
    }

    private static void anyRevisionIsOne() {
        EDGES.sentence("Terms", "about(), marks() and ancestors() have no peer: any revision is one.");
        EDGES.run("open 1 0; add 1 0 7 false; commit 1 = 1; open 0 0; add 0 0 8 false; commit 0 = 2",
            "has 0 = {0 2}; has 1 = {0 1}; about 1 1 1 = 7; about 2 2 1 = 8; marks 1 1 0 = {1}; marks 2 2 0 = {2}",
            "ancestors 1 = {0}; ancestors 2 = {0}; nodes 0 1 = throws.NoSuchElement; nodes 1 2 = throws.NoSuchElement");
    }
}
