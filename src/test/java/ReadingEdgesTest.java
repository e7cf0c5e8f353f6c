/** Boundary cases that promises 12 to 15 name. */
public final class ReadingEdgesTest {
    private static final Edges EDGES = new Edges("ReadingEdgesTest");

    public static void main(String[] args) {
        parentAndName();
        contentAndAttribute();
        birth();
        directoryOrFile();
        aboutNone();
        marksAsBits();
        marksOfNone();
        nodesOfARevision();
        nodesOfTheWorkspace();
        ancestors();
        EDGES.end();
    }

    private static void parentAndName() {
        EDGES.sentence("Promise 12", "its parent (what = 0; -1 for the root), its name (1; -1)");
        EDGES.run("about 0 0 0 = -1; about 0 0 1 = -1; open 0 0; add 0 0 0 true = 1; add 0 1 9 true = 2; add 0 0 9 true = 3",
            "commit 0 = 1; about 1 0 0 = -1; about 1 0 1 = -1; about 1 1 0 = 0; about 1 1 1 = 0; about 1 2 0 = 1",
            "about 1 2 1 = 9; about 1 3 0 = 0; about 1 3 1 = 9; move 0 1 3 5; about 1 1 0 = 0");
        EDGES.run("open 0 0", Edges.each(0, 14, "add 0 # 9 true"), "commit 0", Edges.each(1, 15, "about 1 # 1 = 9"),
            "about 1 15 0 = 14; about 1 11 0 = 10; about 1 10 0 = 9; about 1 1 0 = 0");
    }

    private static void contentAndAttribute() {
        EDGES.sentence("Promise 12", "content (2), attribute (3; 0 for the root)");
        EDGES.run("about 0 0 2 = 0; about 0 0 3 = 0; open 0 0; add 0 0 0 false; add 0 0 1 true; commit 0 = 1",
            "about 1 1 2 = 0; about 1 1 3 = 0; write 0 1 1 min; write 0 1 2 max; write 0 2 2 -1; commit 0 = 2",
            "about 2 1 2 = min; about 2 1 3 = max; about 2 2 2 = 0; about 2 2 3 = -1; about 2 0 2 = 0; about 2 0 3 = 0");
    }

    private static void birth() {
        EDGES.sentence("Promise 12", "birth (4; 0 for the root)");
        EDGES.run("about 0 0 4 = 0; open 0 0; add 0 0 0 false = 1; commit 0 = 1; add 0 0 1 false = 2; commit 0 = 2",
            "open 0 0; add 0 0 2 false = 3; commit 0 = 3; merge 0 2 3 = 4; about 4 1 4 = 1; about 4 2 4 = 2",
            "about 4 3 4 = 3; about 4 0 4 = 0; about 1 1 4 = 1");
    }

    private static void directoryOrFile() {
        EDGES.sentence("Promise 12", "1 if it is a directory else 0 (5)");
        EDGES.run("about 0 0 5 = 1; open 0 0", Edges.each(0, 9, "add 0 0 # true"), Edges.each(0, 4, "add 0 1 # false"),
            "commit 0", Edges.each(0, 10, "about 1 # 5 = 1"), Edges.each(11, 15, "about 1 # 5 = 0"));
        EDGES.run("open 0 0", Edges.each(0, 9, "add 0 0 # false"), "drop 0 10; add 0 0 9 true = 11",
            Edges.each(0, 3, "add 0 11 # true"), "commit 0", Edges.each(1, 9, "about 1 # 5 = 0"),
            Edges.each(11, 15, "about 1 # 5 = 1"));
    }

    private static void aboutNone() {
        EDGES.sentence("Promise 12", "IllegalArgumentException if what is none of these.");
        EDGES.run("about 0 0 6 = throws.IllegalArgument; about 0 0 -1 = throws.IllegalArgument",
            "about 0 0 min = throws.IllegalArgument; about 0 0 max = throws.IllegalArgument",
            "about 0 1 6 = throws.NoSuchElement; about 1 0 6 = throws.NoSuchElement; about -1 0 0 = throws.NoSuchElement",
            "about 0 -1 0 = throws.NoSuchElement; about 0 16 0 = throws.NoSuchElement; about 0 32 0 = throws.NoSuchElement",
            "about 0 64 0 = throws.NoSuchElement; about 64 0 0 = throws.NoSuchElement; about 40 0 0 = throws.NoSuchElement",
            "about 0 min 0 = throws.NoSuchElement; about max 0 0 = throws.NoSuchElement");
    }

    private static void marksAsBits() {
        EDGES.sentence("Promise 13", "The marks of scalar which of a node in a revision: bit k for revision k.");
        EDGES.run("open 0 0; add 0 0 0 false", Edges.each(1, 37, "write 0 1 1 #; commit 0 = #"),
            "marks 37 1 0 = {1}; marks 37 1 1 = {37}; marks 31 1 1 = {31}; marks 32 1 1 = {32}; marks 33 1 1 = {33}",
            "write 0 1 2 9; commit 0 = 38; open 0 37; write 0 1 2 9; commit 0 = 39; marks 38 1 2 = {38}; marks 39 1 2 = {39}");
        EDGES.run("open 0 0; add 0 0 0 false", Edges.each(1, 36, "write 0 1 1 #; commit 0 = #"),
            "write 0 1 2 9; commit 0 = 37; open 0 36; write 0 1 2 9; commit 0 = 38; merge 0 37 38 = 39; marks 39 1 2 = {37 38}",
            "marks 39 1 1 = {36}; marks 39 1 0 = {1}");
    }

    private static void marksOfNone() {
        EDGES.sentence("Promise 13", "IllegalArgumentException if which is not 0 .. 2, or the node is the root.");
        EDGES.run(Edges.PLANTED, Edges.each(0, 2, "marks 1 5 # = {1}"), "marks 1 5 3 = throws.IllegalArgument",
            "marks 1 5 -1 = throws.IllegalArgument; marks 1 5 min = throws.IllegalArgument",
            "marks 1 5 max = throws.IllegalArgument",
            "marks 1 0 0 = throws.IllegalArgument; marks 0 0 2 = throws.IllegalArgument; marks 1 0 3 = throws.IllegalArgument",
            "marks 0 1 0 = throws.NoSuchElement; marks 1 6 0 = throws.NoSuchElement; marks 1 6 3 = throws.NoSuchElement",
            "marks 2 0 0 = throws.NoSuchElement; marks -1 0 0 = throws.NoSuchElement; marks 1 -1 0 = throws.NoSuchElement",
            "marks 1 33 0 = throws.NoSuchElement; marks 65 1 0 = throws.NoSuchElement");
    }

    private static void nodesOfARevision() {
        EDGES.sentence("Promise 14", "The nodes alive in a revision that the peer has");
        EDGES.run("nodes 0 0 = {0}; open 0 0", Edges.each(0, 14, "add 0 # 0 true"), "commit 0; nodes 0 1 = {0..15}",
            "nodes 1 1 = throws.NoSuchElement; drop 0 15; commit 0; nodes 0 2 = {0..14}; nodes 0 3 = throws.NoSuchElement",
            "nodes 0 -2 = throws.NoSuchElement; nodes 0 min = throws.NoSuchElement; nodes 0 max = throws.NoSuchElement",
            "nodes 0 64 = throws.NoSuchElement; nodes 0 65 = throws.NoSuchElement; nodes 2 0 = throws.NoSuchElement",
            "certify 0 2 0 0; exchange 0; nodes 1 1 = {0..15}; nodes 1 2 = {0..14}");
    }

    private static void nodesOfTheWorkspace() {
        EDGES.sentence("Promise 14", "or, with r = -1, in its workspace (0 if there is none), as bits");
        EDGES.run("nodes 0 -1 = 0; nodes 1 -1 = 0; nodes 2 -1 = throws.NoSuchElement; nodes -1 -1 = throws.NoSuchElement",
            "open 0 0; nodes 0 -1 = 1; nodes 1 -1 = 0", Edges.each(0, 14, "add 0 # 0 true"), "nodes 0 -1 = 65535",
            "open 0 0; nodes 0 -1 = 1; nodes 1 -1 = 0");
    }

    private static void ancestors() {
        EDGES.sentence("Promise 15", "The ancestors of a revision, as bits.");
        EDGES.run("ancestors 0 = 0; ancestors 1 = throws.NoSuchElement; ancestors -1 = throws.NoSuchElement",
            "ancestors min = throws.NoSuchElement; ancestors max = throws.NoSuchElement; ancestors 64 = throws.NoSuchElement",
            "open 1 0; add 1 0 0 false", Edges.each(1, 39, "write 1 1 2 #; commit 1 = #"),
            "ancestors 39 = 549755813887; ancestors 1 = 1; ancestors 40 = throws.NoSuchElement");
        // Ancestors over both parents, once each, and no others.
        EDGES.run(Edges.PLANTED, "write 0 4 1 1; commit 0 = 2; open 0 1; write 0 5 1 1; commit 0 = 3; open 0 1",
            "write 0 3 2 1; commit 0 = 4; merge 0 2 4 = 5; ancestors 5 = {0 1 2 4}; merge 0 3 5 = 6; ancestors 6 = {0..5}");
    }
}
