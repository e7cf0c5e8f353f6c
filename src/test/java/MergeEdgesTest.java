/** Boundary cases that promises 8 to 11 and the Terms of merges and conflicts name. */
public final class MergeEdgesTest {
    private static final Edges EDGES = new Edges("MergeEdgesTest");

    /** Revisions 2 and 3 on 1 chose other contents for file 4. */
    private static final String ONE_CONFLICT = Edges.PLANTED
        + ";write 0 4 1 12; commit 0 = 2; open 0 1; write 0 4 1 13; commit 0 = 3";

    public static void main(String[] args) {
        nodesAliveInBoth();
        nodesAliveInOne();
        nodesBuried();
        scalarsOfNodesAliveInOne();
        sameValues();
        eachMarkInA();
        eachMarkInB();
        elseAConflict();
        decided();
        decidedAsByItself();
        decidedAsNotByItself();
        orderOfConflicts();
        scalarConflicts();
        oneAtMost();
        missingParents();
        takenPlaces();
        circles();
        waysThatEnd();
        decideSides();
        decideForNextMerges();
        decideForNodesNotAlive();
        decideWrongly();
        decideTheRoot();
        bury();
        buryAsWithDecide();
        buryTheRoot();
        merge();
        mergeForgets();
        mergeWithConflicts();
        mergeWithoutConflictsListsNone();
        mergeRelatives();
        mergeToTheLastRevision();
        conflictFromZero();
        conflictThatIsNone();
        EDGES.end();
    }

    private static void nodesAliveInBoth() {
        EDGES.sentence("Terms, MERGE", "makes a tree of those nodes that are alive in both");
        EDGES.run("open 0 0; add 0 0 0 true; commit 0; drop 0 1; commit 0 = 2; open 0 1; drop 0 1; commit 0 = 3",
            "merge 0 2 3 = 4; nodes 0 4 = {0}");
        EDGES.run(Edges.PLANTED, "write 0 4 1 1; commit 0; open 0 1; write 0 5 1 1; commit 0; merge 0 2 3 = 4",
            "nodes 0 4 = {0..5}");
    }

    private static void nodesAliveInOne() {
        EDGES.sentence("Terms, MERGE", "or that are alive in one of them while their birth is neither the other one"
            + " nor an ancestor of that");
        EDGES.run(Edges.PLANTED, "drop 0 4; add 0 0 6 false = 6; commit 0 = 2; open 0 1; drop 0 5; add 0 0 7 false = 7",
            "commit 0 = 3; merge 0 2 3 = 4; nodes 0 4 = {0..3 6 7}; merge 0 3 2 = 5; nodes 0 5 = {0..3 6 7}");
        // Born in the very parent that the other one comes from, and born just after it.
        EDGES.run("open 0 0; add 0 0 0 false = 1; commit 0 = 1; add 0 0 1 false = 2; commit 0 = 2; drop 0 1; drop 0 2",
            "commit 0 = 3; open 0 2; add 0 0 2 false = 3; commit 0 = 4; open 0 1; add 0 0 3 false = 4; commit 0 = 5",
            "merge 0 3 4 = 6; nodes 0 6 = {0 3}; merge 0 3 5 = 7; nodes 0 7 = {0 4}; merge 0 5 4 = 8",
            "nodes 0 8 = {0..4}");
        // What a merge dropped by a burial has its birth before that merge.
        EDGES.run(ONE_CONFLICT, "bury 0 4 true; merge 0 2 3 = 4; nodes 0 4 = {0..3 5}; open 0 2; write 0 5 1 1",
            "commit 0 = 5; merge 0 5 4 = 6; nodes 0 6 = {0..3 5}");
    }

    private static void nodesBuried() {
        EDGES.sentence("Terms, MERGE", "but for those that the peer has BURIED");
        EDGES.run(Edges.PLANTED, "add 0 0 6 false = 6; commit 0; open 0 1; add 0 0 7 false = 7; drop 0 3; commit 0",
            "bury 0 1 true; bury 0 3 true; bury 0 6 true; bury 0 7 true; merge 0 2 3 = 4; nodes 0 4 = {0 2 4 5}",
            "bury 0 6 true; bury 0 6 false; merge 0 2 3 = 5; nodes 0 5 = {0 1 2 4..7}");
        EDGES.run(Edges.PLANTED, "certify 0 1 0 0; exchange 0; write 0 4 1 1; commit 0; open 1 1; write 1 5 1 1; commit 1",
            "certify 0 2 0 0; certify 1 3 0 0; exchange 0; bury 1 4 true; merge 0 2 3 = 4; nodes 0 4 = {0..5}",
            "merge 1 2 3 = 5; nodes 1 5 = {0..3 5}");
    }

    private static void scalarsOfNodesAliveInOne() {
        EDGES.sentence("Terms, MERGE", "A node alive in only one of them has the scalars and marks that it has there.");
        EDGES.run(Edges.PLANTED, "add 0 3 6 false = 6; commit 0 = 2; write 0 6 1 7; commit 0 = 3; open 0 1; write 0 5 1 1",
            "commit 0 = 4; decide 0 6 0 0; decide 0 6 1 1; decide 0 6 2 0; merge 0 3 4 = 5; about 5 6 0 = 3",
            "about 5 6 1 = 6; about 5 6 2 = 7; about 5 6 3 = 0; about 5 6 4 = 2; marks 5 6 0 = {2}; marks 5 6 1 = {3}",
            "marks 5 6 2 = {2}; decide 0 6 1 0; merge 0 4 3 = 6; about 6 6 2 = 7; marks 6 6 1 = {3}");
        // The last node that there can be, on either side.
        EDGES.run(Edges.PLANTED, Edges.each(0, 9, "add 0 3 # false"), "write 0 15 1 min; write 0 15 2 max; commit 0 = 2",
            "open 0 1; write 0 5 1 1; commit 0 = 3; merge 0 2 3 = 4; nodes 0 4 = {0..15}; about 4 15 0 = 3",
            "about 4 15 1 = 9; about 4 15 2 = min; about 4 15 3 = max; marks 4 15 2 = {2}; merge 0 3 2 = 5",
            "nodes 0 5 = {0..15}; about 5 15 1 = 9; about 5 15 2 = min; marks 5 15 0 = {2}");
    }

    private static void sameValues() {
        EDGES.sentence("Terms, MERGE", "if both values are the same, that value, and as marks those of both,"
            + " without those that are ancestors of another one of them");
        // Chosen in both, chosen in neither, and chosen anew in one of them.
        EDGES.run(Edges.PLANTED, "write 0 4 1 8; commit 0 = 2; open 0 1; write 0 4 1 8; commit 0 = 3; merge 0 2 3 = 4",
            "about 4 4 2 = 8; marks 4 4 1 = {2 3}; marks 4 4 0 = {1}; marks 4 4 2 = {1}; merge 0 3 2 = 5",
            "marks 5 4 1 = {2 3}; merge 0 4 5 = 6; marks 6 4 1 = {2 3}");
        EDGES.run(Edges.PLANTED, "write 0 5 1 1; commit 0 = 2; open 0 1; write 0 4 1 8; commit 0 = 3; write 0 4 1 0",
            "commit 0 = 4; merge 0 2 4 = 5; about 5 4 2 = 0; marks 5 4 1 = {4}; merge 0 4 2 = 6; marks 6 4 1 = {4}");
        // Marks 2 and 3 of both; then 3 is an ancestor of the choice anew in 6.
        EDGES.run(Edges.PLANTED, "write 0 4 1 8; commit 0 = 2; open 0 1; write 0 4 1 8; commit 0 = 3; merge 0 2 3 = 4",
            "open 0 3; write 0 4 1 9; commit 0 = 5; write 0 4 1 8; commit 0 = 6; marks 6 4 1 = {6}",
            "merge 0 4 6 = 7; marks 7 4 1 = {2 6}; merge 0 6 4 = 8; marks 8 4 1 = {2 6}");
    }

    private static void eachMarkInA() {
        EDGES.sentence("Terms, MERGE", "else, if each of the marks in a is b or an ancestor of b,"
            + " the value and the marks in b");
        EDGES.run(Edges.PLANTED, "write 0 5 1 1; commit 0 = 2; open 0 1; write 0 4 1 13; move 0 4 3 0; write 0 4 2 6",
            "commit 0 = 3; merge 0 2 3 = 4; about 4 4 2 = 13; marks 4 4 1 = {3}; about 4 4 0 = 3; marks 4 4 0 = {3}",
            "about 4 4 3 = 6; marks 4 4 2 = {3}; about 4 5 2 = 1; marks 4 5 1 = {2}");
        // All of two marks are ancestors, or one of them is not.
        EDGES.run(Edges.PLANTED, "write 0 4 1 8; commit 0 = 2; open 0 1; write 0 4 1 8; commit 0 = 3; merge 0 2 3 = 4",
            "open 0 4; write 0 4 1 9; commit 0 = 5; open 0 4; write 0 5 1 1; commit 0 = 6; merge 0 6 5 = 7",
            "about 7 4 2 = 9; marks 7 4 1 = {5}; open 0 2; write 0 4 1 7; commit 0 = 8; merge 0 4 8 = -1",
            "open 0 3; write 0 4 1 7; commit 0 = 9; merge 0 4 9 = -1; conflict 0 0 0 = 4; conflict 0 0 1 = 1");
    }

    private static void eachMarkInB() {
        EDGES.sentence("Terms, MERGE", "else, if each of the marks\nin b is a or an ancestor of a,"
            + " the value and the marks in a");
        EDGES.run(Edges.PLANTED, "write 0 5 1 1; commit 0 = 2; open 0 1; write 0 4 1 13; move 0 4 3 0; write 0 4 2 6",
            "commit 0 = 3; merge 0 3 2 = 4; about 4 4 2 = 13; marks 4 4 1 = {3}; about 4 4 0 = 3; marks 4 4 0 = {3}",
            "about 4 4 3 = 6; marks 4 4 2 = {3}; about 4 5 2 = 1; marks 4 5 1 = {2}");
        EDGES.run(Edges.PLANTED, "write 0 4 1 8; commit 0 = 2; open 0 1; write 0 4 1 8; commit 0 = 3; merge 0 2 3 = 4",
            "open 0 4; write 0 4 1 9; commit 0 = 5; open 0 4; write 0 5 1 1; commit 0 = 6; merge 0 5 6 = 7",
            "about 7 4 2 = 9; marks 7 4 1 = {5}; open 0 3; write 0 4 1 7; commit 0 = 8; merge 0 8 4 = -1",
            "open 0 2; write 0 4 1 7; commit 0 = 9; merge 0 9 4 = -1; conflict 0 0 0 = 4; conflict 0 0 1 = 1");
    }

    private static void elseAConflict() {
        EDGES.sentence("Terms, MERGE", "else there is a conflict");
        EDGES.run(ONE_CONFLICT, "merge 0 2 3 = -1; merge 0 3 2 = -1; conflict 0 0 0 = 4; conflict 0 0 1 = 1");
        // A value that was chosen and chosen back stands against another one all the same.
        EDGES.run(Edges.PLANTED, "write 0 4 1 1; commit 0; write 0 4 1 0; commit 0 = 3; open 0 1; write 0 4 1 5; commit 0 = 4",
            "merge 0 3 4 = -1; conflict 0 0 0 = 4; conflict 0 0 1 = 1");
        // With the marks of revisions beyond 31.
        EDGES.run(Edges.PLANTED, Edges.each(2, 36, "write 0 5 2 #; commit 0 = #"),
            "write 0 4 1 1; commit 0 = 37; open 0 36; write 0 4 1 2; commit 0 = 38; merge 0 37 38 = -1",
            "decide 0 4 1 1; merge 0 37 38 = 39; about 39 4 2 = 2; marks 39 4 1 = {39}; marks 39 5 2 = {36}");
    }

    private static void decided() {
        EDGES.sentence("Terms, MERGE", "Where the peer has DECIDED for a (0) or b (1), for a node alive in both:"
            + " the value that it has there");
        EDGES.run(ONE_CONFLICT, "decide 0 4 1 0; merge 0 2 3 = 4; about 4 4 2 = 12; decide 0 4 1 0; merge 0 3 2 = 5",
            "about 5 4 2 = 13; decide 0 4 1 1; merge 0 2 3 = 6; about 6 4 2 = 13; decide 0 4 1 1; merge 0 3 2 = 7",
            "about 7 4 2 = 12");
        EDGES.run(ONE_CONFLICT, "decide 0 4 0 1; decide 0 4 2 1; decide 0 5 1 1; decide 1 4 1 1; merge 0 2 3 = -1",
            "conflict 0 0 0 = 4; conflict 0 0 1 = 1");
    }

    private static void decidedAsByItself() {
        EDGES.sentence("Terms, MERGE", "if it has that by itself, the marks that it has so");
        EDGES.run(Edges.PLANTED, "write 0 4 1 8; write 0 5 1 8; commit 0 = 2; open 0 1; write 0 4 1 8; write 0 4 2 8",
            "commit 0 = 3; decide 0 4 1 0; decide 0 4 2 1; decide 0 5 1 0; decide 0 4 0 1; merge 0 2 3 = 4",
            "marks 4 4 1 = {2 3}; marks 4 4 2 = {3}; marks 4 5 1 = {2}; marks 4 4 0 = {1}; about 4 4 2 = 8",
            "about 4 4 3 = 8; about 4 5 2 = 8; decide 0 4 1 1; merge 0 2 3 = 5; marks 5 4 1 = {2 3}");
    }

    private static void decidedAsNotByItself() {
        EDGES.sentence("Terms, MERGE", "otherwise the merge alone");
        EDGES.run(Edges.PLANTED, "write 0 4 1 8; write 0 4 2 1; commit 0 = 2; open 0 1; write 0 5 1 8; write 0 4 2 2",
            "commit 0 = 3; decide 0 4 1 1; decide 0 5 1 0; decide 0 4 2 1; merge 0 2 3 = 4; about 4 4 2 = 0",
            "marks 4 4 1 = {4}; about 4 5 2 = 0; marks 4 5 1 = {4}; about 4 4 3 = 2; marks 4 4 2 = {4}");
        EDGES.run(Edges.PLANTED, Edges.each(2, 36, "write 0 5 2 #; commit 0 = #"),
            "move 0 4 0 0; commit 0 = 37; open 0 36; write 0 5 1 2; commit 0 = 38; decide 0 4 0 1",
            "merge 0 37 38 = 39; about 39 4 1 = 4; marks 39 4 0 = {39}");
    }

    private static void orderOfConflicts() {
        EDGES.sentence("Terms, CONFLICTS", "in the order of nodes, and for one node in this order");
        EDGES.run(Edges.PLANTED, "move 0 5 2 0; write 0 5 1 1; write 0 5 2 1; write 0 4 2 1; move 0 1 2 1; drop 0 3",
            "commit 0 = 2; open 0 1; move 0 5 2 2; write 0 5 1 2; write 0 5 2 2; write 0 4 2 2; move 0 1 2 3",
            "move 0 4 3 4; commit 0 = 3; merge 0 2 3 = -6; conflict 0 0 0 = 1; conflict 0 0 1 = 0; conflict 0 1 0 = 4",
            "conflict 0 1 1 = 2; conflict 0 2 0 = 4; conflict 0 2 1 = 3; conflict 0 3 0 = 5; conflict 0 3 1 = 0",
            "conflict 0 4 0 = 5; conflict 0 4 1 = 1; conflict 0 5 0 = 5; conflict 0 5 1 = 2",
            "conflict 0 6 0 = throws.IllegalArgument");
    }

    private static void scalarConflicts() {
        EDGES.sentence("Terms, CONFLICTS", "kind 0, 1, 2: the scalar 0, 1, 2 has a conflict that was not decided");
        String three = Edges.PLANTED + ";move 0 4 0 6; write 0 4 1 6; write 0 4 2 6; commit 0; open 0 1; move 0 4 0 7;"
            + "write 0 4 1 7; write 0 4 2 7; commit 0";
        EDGES.run(three, "merge 0 2 3 = -3; decide 0 4 0 0; merge 0 2 3 = -2; conflict 0 0 1 = 1; conflict 0 1 1 = 2",
            "decide 0 4 1 1; merge 0 2 3 = -1; conflict 0 0 1 = 2; decide 0 4 2 0; merge 0 2 3 = 4; about 4 4 1 = 6",
            "about 4 4 2 = 7; about 4 4 3 = 6");
        EDGES.run(three, Edges.each(0, 2, "decide 0 4 # 1"), "decide 0 4 0 -1; merge 0 2 3 = -1; conflict 0 0 1 = 0");
    }

    private static void oneAtMost() {
        EDGES.sentence("Terms, CONFLICTS", "If kind 0 is not among them, one of these at most");
        // File 5 has the place of 4 too, but their parent is not there: 3 alone.
        EDGES.run(Edges.PLANTED, "move 0 4 3 0; commit 0; open 0 1; move 0 5 3 0; commit 0; bury 0 3 true; merge 0 2 3 = -2",
            "conflict 0 0 0 = 4; conflict 0 0 1 = 3; conflict 0 1 0 = 5; conflict 0 1 1 = 3");
        // Directory 3 has a taken place and would be in a circle with 2: 4 alone, and 2 has 5.
        EDGES.run(Edges.PLANTED, "move 0 3 2 0; commit 0; open 0 1; move 0 2 3 0; move 0 1 2 0; commit 0",
            "merge 0 2 3 = -2; conflict 0 0 0 = 2; conflict 0 0 1 = 5; conflict 0 1 0 = 3; conflict 0 1 1 = 4");
        // A place in conflict is in no circle and has no parent that could be missing.
        EDGES.run(Edges.PLANTED, "move 0 4 3 0; commit 0; open 0 1; move 0 4 3 1; commit 0; bury 0 3 true",
            "merge 0 2 3 = -1; conflict 0 0 0 = 4; conflict 0 0 1 = 0");
    }

    private static void missingParents() {
        EDGES.sentence("Terms, CONFLICTS", "3, its parent is not in the tree");
        EDGES.run(Edges.PLANTED, "drop 0 3; commit 0; open 0 1; add 0 3 0 true = 6; add 0 6 0 false = 7; commit 0",
            "merge 0 2 3 = -1; conflict 0 0 0 = 6; conflict 0 0 1 = 3; bury 0 6 true; merge 0 2 3 = -1",
            "conflict 0 0 0 = 7; bury 0 7 true; merge 0 2 3 = 4; nodes 0 4 = {0 1 2 4 5}");
        // The root is always in the tree.
        EDGES.run(Edges.PLANTED, "write 0 1 2 1; commit 0; open 0 1; write 0 2 2 1; commit 0", Edges.each(1, 4, "bury 0 # true"),
            "merge 0 2 3 = 4; nodes 0 4 = {0 5}; about 4 5 0 = 0");
    }

    private static void takenPlaces() {
        EDGES.sentence("Terms, CONFLICTS", "4, a node with a lower number, and without a conflict of kind 0,"
            + " has the same place");
        EDGES.run(Edges.PLANTED, "move 0 4 3 0; commit 0; open 0 1; move 0 5 3 0; commit 0; merge 0 2 3 = -1",
            "conflict 0 0 0 = 5; conflict 0 0 1 = 4; merge 0 3 2 = -1; conflict 0 0 0 = 5; bury 0 4 true; merge 0 2 3 = 4");
        // The lower one's place is in conflict: not until it is decided does it take the place.
        EDGES.run(Edges.PLANTED, "move 0 4 3 0; commit 0; open 0 1; move 0 4 3 1; move 0 5 3 0; commit 0; merge 0 2 3 = -1",
            "conflict 0 0 0 = 4; conflict 0 0 1 = 0; decide 0 4 0 0; merge 0 2 3 = -1; conflict 0 0 0 = 5",
            "conflict 0 0 1 = 4; decide 0 4 0 1; merge 0 2 3 = 4; about 4 4 1 = 1; about 4 5 1 = 0");
        // The higher one's place is in conflict: that is no matter of the lower one.
        EDGES.run(Edges.PLANTED, "move 0 5 3 0; commit 0; open 0 1; move 0 5 3 1; move 0 4 3 0; commit 0; merge 0 2 3 = -1",
            "conflict 0 0 0 = 5; conflict 0 0 1 = 0; decide 0 5 0 0; merge 0 2 3 = -1; conflict 0 0 0 = 5; conflict 0 0 1 = 4");
        // Nor does it take the first place of all.
        EDGES.run(Edges.PLANTED, "move 0 4 3 0; commit 0; open 0 1; move 0 4 3 1; move 0 5 0 0; commit 0; merge 0 2 3 = -1",
            "conflict 0 0 0 = 4; conflict 0 0 1 = 0");
        // A place that a merge freed by a burial, and one that both sides took.
        EDGES.run("open 0 0; add 0 0 0 false; commit 0; open 0 0; add 0 0 1 false; add 0 0 2 false; commit 0 = 2",
            "open 0 2; move 0 2 0 0; commit 0 = 3; merge 0 1 3 = -1; bury 0 1 true; merge 0 1 3 = 4; open 0 2; move 0 3 0 0",
            "commit 0 = 5; merge 0 4 5 = -1; conflict 0 0 0 = 3; conflict 0 0 1 = 4; open 0 0; add 0 0 0 true = 4",
            "commit 0 = 6; merge 0 1 6 = -1; conflict 0 0 0 = 4; merge 0 6 1 = -1; conflict 0 0 0 = 4");
        // Two places, each with a lower one.
        EDGES.run(Edges.PLANTED, "add 0 3 0 false = 6; commit 0 = 2; open 0 1; move 0 4 3 0; move 0 5 3 1; commit 0 = 3",
            "open 0 1; add 0 3 1 false = 7; add 0 3 0 false = 8; commit 0 = 4; bury 0 4 true; merge 0 2 3 = 5",
            "merge 0 5 4 = -2; conflict 0 0 0 = 7; conflict 0 1 0 = 8; conflict 0 0 1 = 4; conflict 0 1 1 = 4");
    }

    private static void circles() {
        EDGES.sentence("Terms, CONFLICTS", "5, going to parents again and again comes to the node itself");
        // The shortest circle, with a file and a directory that lead to it and are not in it.
        EDGES.run(Edges.PLANTED, "move 0 1 2 0; move 0 4 1 9; commit 0; open 0 1; move 0 2 1 0; move 0 3 2 9; commit 0",
            "merge 0 2 3 = -2; conflict 0 0 0 = 1; conflict 0 0 1 = 5; conflict 0 1 0 = 2; conflict 0 1 1 = 5");
        // The longest: 7 and 8 directories in chains that hang in each other's end.
        EDGES.run("open 0 0; add 0 0 0 true; add 0 0 1 true", Edges.each(1, 13, "add 0 # 5 true"), "commit 0 = 1",
            "move 0 1 14 0; commit 0 = 2; open 0 1; move 0 2 15 0; commit 0 = 3; merge 0 2 3 = -15",
            Edges.each(0, 14, "conflict 0 # 1 = 5"), "conflict 0 0 0 = 1; conflict 0 14 0 = 15");
    }

    private static void waysThatEnd() {
        EDGES.sentence("Terms, CONFLICTS", "(a way that comes to a node with a conflict of kind 0 or 3 ends there)");
        EDGES.run(Edges.PLANTED, "move 0 1 2 0; commit 0; open 0 1; move 0 2 1 0; move 0 1 3 0; commit 0",
            "merge 0 2 3 = -1; conflict 0 0 0 = 1; conflict 0 0 1 = 0; decide 0 1 0 0; merge 0 2 3 = -2",
            "conflict 0 0 1 = 5; conflict 0 1 1 = 5; decide 0 1 0 1; merge 0 2 3 = 4");
        EDGES.run(Edges.PLANTED, "move 0 1 2 0; commit 0; open 0 1; move 0 3 1 0; move 0 2 3 0; commit 0",
            "merge 0 2 3 = -3; bury 0 3 true; merge 0 2 3 = -1; conflict 0 0 0 = 2; conflict 0 0 1 = 3");
    }

    private static void decideSides() {
        EDGES.sentence("Promise 8", "that scalar which (0 .. 2) of a node has the value that it has in the first"
            + " (side = 0) or the second one (1), or decides nothing more (-1)");
        String three = Edges.PLANTED + ";move 0 4 0 6; write 0 4 1 6; write 0 4 2 6; commit 0; open 0 1; move 0 4 0 7;"
            + "write 0 4 1 7; write 0 4 2 7; commit 0";
        EDGES.run(three, Edges.each(0, 2, "decide 0 4 # 0"), "merge 0 2 3 = 4", Edges.each(1, 3, "about 4 4 # = 6"));
        EDGES.run(three, Edges.each(0, 2, "decide 0 4 # 0; decide 0 4 # 1"), "merge 0 2 3 = 4",
            Edges.each(1, 3, "about 4 4 # = 7"));
        EDGES.run(three, Edges.each(0, 2, "decide 0 4 # 1; decide 0 4 # -1; decide 0 4 # -1"), "merge 0 2 3 = -3");
    }

    private static void decideForNextMerges() {
        EDGES.sentence("Promise 8", "The peer decides, for its next merges");
        EDGES.run(ONE_CONFLICT, "write 0 5 1 1; commit 0 = 4; open 0 2; write 0 5 1 2; commit 0 = 5; decide 0 4 1 1",
            "merge 0 5 4 = -1; merge 0 4 5 = -1; merge 0 4 1 = throws.IllegalArgument; merge 0 2 3 = 6; about 6 4 2 = 13",
            "merge 0 2 3 = -1");
        // A merge that is there already, and its marks, stay as they are.
        EDGES.run(ONE_CONFLICT, "decide 0 4 1 0; merge 0 2 3 = 4; decide 0 4 1 1; about 4 4 2 = 12; marks 4 4 1 = {4}");
    }

    private static void decideForNodesNotAlive() {
        EDGES.sentence("Promise 8", "The node need not be alive anywhere, but it must have been added.");
        EDGES.run("decide 0 1 0 0 = throws.NoSuchElement; open 0 0; add 0 0 0 false = 1; decide 0 1 0 0; open 0 0",
            "decide 0 1 2 1; decide 1 1 1 -1; decide 1 2 0 0 = throws.NoSuchElement; decide 1 -1 0 0 = throws.NoSuchElement",
            "decide 0 16 0 0 = throws.NoSuchElement; decide 0 max 0 0 = throws.NoSuchElement",
            "decide 0 min 0 0 = throws.NoSuchElement");
        EDGES.run("open 0 0", Edges.each(0, 9, "add 0 0 # true"), Edges.each(0, 4, "add 0 1 # true"), "open 0 0",
            "decide 1 15 2 1; decide 1 16 0 -1 = throws.NoSuchElement");
    }

    private static void decideWrongly() {
        EDGES.sentence("Promise 8", "IllegalArgumentException: which or side is none of these");
        EDGES.run(ONE_CONFLICT, "decide 0 4 1 2 = throws.IllegalArgument; decide 0 4 1 -2 = throws.IllegalArgument",
            "decide 0 4 -1 0 = throws.IllegalArgument; decide 0 4 3 0 = throws.IllegalArgument",
            "decide 0 4 max 0 = throws.IllegalArgument; decide 0 4 min 0 = throws.IllegalArgument",
            "decide 0 4 1 max = throws.IllegalArgument; decide 0 4 1 min = throws.IllegalArgument",
            "decide 0 3 4 0 = throws.IllegalArgument; decide 0 5 -2 0 = throws.IllegalArgument; merge 0 2 3 = -1",
            "decide 0 4 1 1; decide 0 4 1 -3 = throws.IllegalArgument; merge 0 2 3 = 4; about 4 4 2 = 13");
    }

    private static void decideTheRoot() {
        EDGES.sentence("Promise 8", "or the node is the root");
        EDGES.run("decide 0 0 0 0 = throws.IllegalArgument; decide 1 0 2 -1 = throws.IllegalArgument",
            "decide 2 0 0 0 = throws.NoSuchElement; decide 0 0 3 3 = throws.IllegalArgument");
    }

    private static void bury() {
        EDGES.sentence("Promise 9", "The peer buries a node for its next merges, or not any more.");
        EDGES.run(ONE_CONFLICT, "bury 0 4 true; bury 0 4 true; bury 0 4 false; merge 0 2 3 = -1; bury 0 5 false",
            "bury 0 4 true; write 0 5 1 1; commit 0 = 4; open 0 2; write 0 5 1 2; commit 0 = 5; merge 0 4 5 = -1",
            "conflict 0 0 0 = 5; merge 0 2 3 = 6; nodes 0 6 = {0..3 5}; merge 0 2 3 = -1; nodes 0 2 = {0..5}");
        // What a peer has buried is alive in its workspace and in other merges' revisions as before.
        EDGES.run(ONE_CONFLICT, "bury 0 4 true; nodes 0 -1 = {0..5}; write 0 4 2 1; commit 0 = 4; nodes 0 4 = {0..5}");
    }

    private static void buryAsWithDecide() {
        EDGES.sentence("Promise 9", "As with decide().");
        EDGES.run("bury 0 1 true = throws.NoSuchElement; bury 0 1 false = throws.NoSuchElement; open 0 0",
            "add 0 0 0 false = 1; open 0 0; bury 0 1 true; bury 1 1 false; bury 1 2 true = throws.NoSuchElement",
            "bury 0 -1 true = throws.NoSuchElement; bury 0 32 true = throws.NoSuchElement",
            "bury 0 33 true = throws.NoSuchElement; bury -1 1 true = throws.NoSuchElement");
    }

    private static void buryTheRoot() {
        EDGES.sentence("Promise 9", "IllegalArgumentException: the node is the root.");
        EDGES.run("bury 0 0 true = throws.IllegalArgument; bury 0 0 false = throws.IllegalArgument",
            "bury 2 0 true = throws.NoSuchElement");
    }

    private static void merge() {
        EDGES.sentence("Promise 10", "the number of the new revision, with a and b as parents, which the peer has");
        EDGES.run(Edges.PLANTED, "write 0 4 1 1; commit 0; open 0 1; write 0 5 1 1; commit 0; nodes 1 -1 = {}",
            "merge 0 2 3 = 4; has 0 = {0..4}; has 1 = {0}; ancestors 4 = {0..3}; merge 0 3 2 = 5; ancestors 5 = {0..3}",
            "merge 0 4 5 = 6; ancestors 6 = {0..5}");
        // A merge leaves the workspace and its base alone.
        EDGES.run(Edges.PLANTED, "write 0 4 1 1; commit 0; open 0 1; write 0 5 1 1; commit 0; write 0 5 1 2; merge 0 2 3 = 4",
            "nodes 0 -1 = {0..5}; commit 0 = 5; ancestors 5 = {0 1 3}; about 5 5 2 = 2; about 5 4 2 = 0");
    }

    private static void mergeForgets() {
        EDGES.sentence("Promise 10", "nothing is decided or buried by it any more");
        EDGES.run(ONE_CONFLICT, "decide 0 4 1 0; decide 0 5 2 1; bury 0 3 true; merge 0 2 3 = 4; merge 0 2 3 = -1",
            "conflict 0 0 0 = 4; decide 0 4 1 1; merge 0 2 3 = 5; nodes 0 4 = {0 1 2 4 5}; nodes 0 5 = {0..5}");
        EDGES.run(ONE_CONFLICT, "certify 0 2 0 0; certify 0 3 0 0; exchange 0; decide 1 4 1 1; bury 1 5 true; bury 0 4 true",
            "merge 0 2 3 = 4; merge 1 2 3 = 5; about 5 4 2 = 13; nodes 1 5 = {0..4}; merge 1 2 3 = -1");
    }

    private static void mergeWithConflicts() {
        EDGES.sentence("Promise 10", "With conflicts: minus their number; they are the LISTED ones of this peer then,"
            + " and no revision is made");
        EDGES.run(ONE_CONFLICT, "merge 0 2 3 = -1; has 0 = {0..3}; ancestors 4 = throws.NoSuchElement; write 0 5 1 1",
            "commit 0 = 4; merge 0 2 4 = -1; conflict 0 0 0 = 4; conflict 1 0 0 = throws.IllegalArgument; merge 0 4 2 = -1",
            "conflict 0 1 0 = throws.IllegalArgument; nodes 0 -1 = {0..5}");
        // As many as there can be: three of each file and two of the directory that they are in.
        EDGES.run("open 0 0; add 0 0 0 true", Edges.each(1, 9, "add 0 0 # false"), Edges.each(0, 4, "add 0 1 # false"),
            "commit 0 = 1", allOther(1), "commit 0 = 2; open 0 1", allOther(2), "commit 0 = 3; merge 0 2 3 = -44",
            "conflict 0 0 0 = 1; conflict 0 0 1 = 0; conflict 0 1 1 = 2; conflict 0 2 0 = 2; conflict 0 43 0 = 15",
            "conflict 0 43 1 = 2; conflict 0 42 1 = 1; conflict 0 44 0 = throws.IllegalArgument");
    }

    /** All 15 nodes get other places (1 or 2 names on), contents and attributes. */
    private static String allOther(int side) {
        StringBuilder rows = new StringBuilder();
        for (int node = 15; node > 0; node--) {
            int place = node - 1 + side;
            rows.append(";move 0 ").append(node).append(' ').append(place / 10).append(' ').append(place % 10);
            rows.append(";write 0 ").append(node).append(" 2 ").append(side);
            rows.append(node == 1 ? "" : ";write 0 " + node + " 1 " + side);
        }
        return rows.substring(1);
    }

    private static void mergeWithoutConflictsListsNone() {
        EDGES.sentence("Promise 10", "(a merge without conflicts lists none)");
        EDGES.run(ONE_CONFLICT, "merge 0 2 3 = -1; conflict 0 0 0 = 4; decide 0 4 1 0; merge 0 2 3 = 4",
            "conflict 0 0 0 = throws.IllegalArgument; conflict 0 -1 0 = throws.IllegalArgument; merge 0 2 3 = -1");
        EDGES.run(ONE_CONFLICT, "certify 0 2 0 0; certify 0 3 0 0; exchange 0; merge 0 2 3 = -1; merge 1 2 3 = -1",
            "decide 0 4 1 0; merge 0 2 3 = 4; conflict 1 0 0 = 4; conflict 0 0 0 = throws.IllegalArgument");
    }

    private static void mergeRelatives() {
        EDGES.sentence("Promise 10", "IllegalArgumentException: a is b, or one is an ancestor of the other.");
        EDGES.run(ONE_CONFLICT, "merge 0 2 2 = throws.IllegalArgument; merge 0 0 0 = throws.IllegalArgument",
            "merge 0 1 2 = throws.IllegalArgument; merge 0 2 1 = throws.IllegalArgument",
            "merge 0 0 3 = throws.IllegalArgument; merge 0 3 0 = throws.IllegalArgument; decide 0 4 1 0; merge 0 2 3 = 4",
            "merge 0 4 2 = throws.IllegalArgument; merge 0 3 4 = throws.IllegalArgument",
            "merge 0 4 1 = throws.IllegalArgument; merge 0 4 5 = throws.NoSuchElement; merge 0 5 5 = throws.NoSuchElement",
            "merge 1 2 2 = throws.NoSuchElement; merge 1 0 0 = throws.IllegalArgument");
    }

    private static void mergeToTheLastRevision() {
        EDGES.sentence("Promise 10", "IllegalStateException: there are 40 revisions.");
        EDGES.run(ONE_CONFLICT, Edges.each(4, 38, "write 0 5 2 #; commit 0 = #"), "decide 0 4 1 0; merge 0 2 38 = 39",
            "ancestors 39 = {0..38}; merge 0 2 38 = throws.IllegalState; merge 0 2 3 = throws.IllegalState",
            "merge 0 3 39 = throws.IllegalArgument; merge 0 2 40 = throws.NoSuchElement; has 0 = {0..39}");
        EDGES.run(ONE_CONFLICT, "merge 0 2 3 = -1", Edges.each(4, 39, "write 0 5 2 #; commit 0 = #"),
            "merge 0 2 39 = throws.IllegalState; conflict 0 0 0 = 4; conflict 0 0 1 = 1");
    }

    private static void conflictFromZero() {
        EDGES.sentence("Promise 11", "Of the i-th (from 0) of the peer's listed conflicts: its node (what = 0)"
            + " or its kind (1)");
        EDGES.run(ONE_CONFLICT, "write 0 5 2 1; commit 0 = 4; open 0 2; write 0 5 2 2; commit 0 = 5; merge 0 4 5 = -2",
            "conflict 0 0 0 = 4; conflict 0 0 1 = 1; conflict 0 1 0 = 5; conflict 0 1 1 = 2; conflict 0 0 0 = 4",
            "merge 0 2 3 = -1; conflict 0 0 0 = 4; conflict 0 1 0 = throws.IllegalArgument");
    }

    private static void conflictThatIsNone() {
        EDGES.sentence("Promise 11", "IllegalArgumentException if what is neither, or there is no such one.");
        EDGES.run("conflict 0 0 0 = throws.IllegalArgument; conflict 1 0 1 = throws.IllegalArgument",
            "conflict 0 -1 0 = throws.IllegalArgument; conflict 2 0 0 = throws.NoSuchElement");
        EDGES.run(ONE_CONFLICT, "merge 0 2 3 = -1; conflict 0 0 2 = throws.IllegalArgument",
            "conflict 0 0 -1 = throws.IllegalArgument; conflict 0 1 0 = throws.IllegalArgument",
            "conflict 0 -1 1 = throws.IllegalArgument; conflict 0 47 1 = throws.IllegalArgument",
            "conflict 0 48 1 = throws.IllegalArgument; conflict 0 max 0 = throws.IllegalArgument",
            "conflict 0 min 0 = throws.IllegalArgument; conflict 1 0 0 = throws.IllegalArgument",
            "conflict -1 1 2 = throws.NoSuchElement; conflict 0 0 0 = 4");
    }
}
