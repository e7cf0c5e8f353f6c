/** Promises 8 to 11: decisions, burials, merges and their conflicts. */
public final class MergeTest {
    private static final Checks CHECKS = new Checks("MergeTest");

    public static void main(String[] args) {
        decideWrongly();
        buryWrongly();
        mergeWrongly();
        nodesOfOneSide();
        scalarsByThemselves();
        sameValues();
        conflictsOfScalars();
        decisionsAndMarks();
        decisionsLast();
        decisionsForOneSideOnly();
        burials();
        missingParents();
        takenPlaces();
        takenPlaceAndPlaceInConflict();
        circles();
        waysThatEnd();
        everyNodeInConflict();
        listing();
        CHECKS.end();
    }

    /** Revision 1 has directories 1, 2 and 3 with these names, and files 4 and 5, in the root. */
    private static MarkedTrees planted() {
        MarkedTrees x = new MarkedTrees();
        x.open(0, 0);
        for (int node = 1; node <= 5; node++) {
            x.add(0, 0, node, node <= 3);
        }
        x.commit(0);
        return x;
    }

    private static String listed(MarkedTrees x, int peer, int answer) {
        StringBuilder text = new StringBuilder();
        for (int i = 0; i < -answer; i++) {
            text.append(x.conflict(peer, i, 0)).append(':').append(x.conflict(peer, i, 1)).append(' ');
        }
        CHECKS.badArgument("11: no more are listed", () -> x.conflict(peer, Math.max(0, -answer), 0));
        return text.toString().trim();
    }

    private static void dueConflicts(String what, MarkedTrees x, int a, int b, String want) {
        CHECKS.due(what, listed(x, 0, x.merge(0, a, b)), want);
    }

    private static void decideWrongly() {
        MarkedTrees x = planted();
        x.decide(1, 5, 0, 0);
        x.decide(1, 5, 1, 1);
        x.decide(1, 1, 2, -1);
        CHECKS.noElement("8: peer", () -> x.decide(2, 1, 0, 0));
        CHECKS.noElement("8: node 6", () -> x.decide(0, 6, 0, 0));
        CHECKS.noElement("8: node -1", () -> x.decide(0, -1, 0, 0));
        CHECKS.noElement("8: node ahead of which", () -> x.decide(0, 6, 3, 5));
        CHECKS.badArgument("8: the root", () -> x.decide(0, 0, 0, 0));
        CHECKS.badArgument("8: which 3", () -> x.decide(0, 1, 3, 0));
        CHECKS.badArgument("8: which -1", () -> x.decide(0, 1, -1, 0));
        CHECKS.badArgument("8: side 2", () -> x.decide(0, 1, 0, 2));
        CHECKS.badArgument("8: side -2", () -> x.decide(0, 1, 0, -2));
        x.add(0, 0, 9, false);
        x.decide(0, 6, 0, 0);
        x.open(0, 0);
        x.decide(1, 6, 0, 0);
    }

    private static void buryWrongly() {
        MarkedTrees x = planted();
        x.bury(1, 5, true);
        x.bury(1, 5, false);
        CHECKS.noElement("9: peer", () -> x.bury(-1, 1, true));
        CHECKS.noElement("9: node 6", () -> x.bury(0, 6, true));
        CHECKS.noElement("9: node -1", () -> x.bury(0, -1, false));
        CHECKS.badArgument("9: the root", () -> x.bury(0, 0, true));
        CHECKS.badArgument("9: the root, not any more", () -> x.bury(0, 0, false));
        x.add(0, 0, 9, false);
        x.open(0, 0);
        x.bury(1, 6, true);
    }

    private static void mergeWrongly() {
        MarkedTrees x = planted();
        x.drop(0, 5);
        x.commit(0);
        CHECKS.noElement("10: peer", () -> x.merge(2, 0, 1));
        CHECKS.noElement("10: first one", () -> x.merge(0, 3, 1));
        CHECKS.noElement("10: second one", () -> x.merge(0, 1, 3));
        CHECKS.noElement("10: first one -1", () -> x.merge(0, -1, 1));
        CHECKS.noElement("10: the same that is none", () -> x.merge(0, 3, 3));
        CHECKS.noElement("10: the peer does not have it", () -> x.merge(1, 0, 1));
        CHECKS.badArgument("10: itself", () -> x.merge(0, 1, 1));
        CHECKS.badArgument("10: parent first", () -> x.merge(0, 1, 2));
        CHECKS.badArgument("10: parent second", () -> x.merge(0, 2, 1));
        CHECKS.badArgument("10: ancestor first", () -> x.merge(0, 0, 2));
        CHECKS.badArgument("10: ancestor second", () -> x.merge(0, 2, 0));
        CHECKS.due("10: no revision came of it", x.has(0), 7);
    }

    private static void nodesOfOneSide() {
        MarkedTrees x = planted();
        x.drop(0, 4);
        x.add(0, 1, 0, false);
        x.write(0, 6, 1, 60);
        x.commit(0);
        x.open(0, 1);
        x.drop(0, 5);
        x.write(0, 4, 2, 9);
        x.add(0, 2, 0, false);
        x.commit(0);
        CHECKS.due("10: merge", x.merge(0, 2, 3), 4);
        CHECKS.due("10: dropped by one is dropped, though the other wrote", x.nodes(0, 4), 0b11001111);
        CHECKS.due("10: scalars of one side", x.about(4, 6, 2), 60);
        CHECKS.due("10: marks of one side", x.marks(4, 6, 1), 4);
        CHECKS.due("10: place of the other side", x.about(4, 7, 0), 2);
        CHECKS.due("10: marks of the other side", x.marks(4, 7, 0), 8);
        CHECKS.due("10: birth", x.about(4, 7, 4), 3);
        CHECKS.due("10: parents", x.ancestors(4), 15);
        CHECKS.due("10: has", x.has(0), 31);
        CHECKS.due("10: the workspace stays", x.nodes(0, -1), 0b10011111);
        CHECKS.due("10: the other way round", x.merge(0, 3, 2), 5);
        CHECKS.due("10: same nodes", x.nodes(0, 5), 0b11001111);
        CHECKS.due("10: of two merges", x.merge(0, 4, 5), 6);
        CHECKS.due("10: marks stay as they were", x.marks(6, 6, 1), 4);
    }

    private static void scalarsByThemselves() {
        MarkedTrees x = planted();
        x.write(0, 4, 1, 40);
        x.move(0, 5, 1, 0);
        x.commit(0);
        x.open(0, 1);
        x.write(0, 4, 2, 41);
        x.write(0, 5, 1, 50);
        x.commit(0);
        CHECKS.due("10: merge", x.merge(0, 2, 3), 4);
        CHECKS.due("10: content of a", x.about(4, 4, 2), 40);
        CHECKS.due("10: its marks", x.marks(4, 4, 1), 4);
        CHECKS.due("10: attribute of b", x.about(4, 4, 3), 41);
        CHECKS.due("10: its marks", x.marks(4, 4, 2), 8);
        CHECKS.due("10: place of a", x.about(4, 5, 0), 1);
        CHECKS.due("10: its marks", x.marks(4, 5, 0), 4);
        CHECKS.due("10: content of b", x.about(4, 5, 2), 50);
        CHECKS.due("10: marks of what nobody chose", x.marks(4, 5, 2), 2);
        x.open(0, 3);
        x.write(0, 4, 2, 42);
        x.commit(0);
        CHECKS.due("10: a mark that is an ancestor of the other", x.merge(0, 4, 5), 6);
        CHECKS.due("10: gives way", x.about(6, 4, 3), 42);
        CHECKS.due("10: in the other order", x.merge(0, 5, 4), 7);
        CHECKS.due("10: too", x.about(7, 4, 3), 42);
    }

    private static void sameValues() {
        MarkedTrees x = planted();
        x.write(0, 4, 1, 40);
        x.commit(0);
        x.open(0, 1);
        x.write(0, 4, 1, 40);
        x.commit(0);
        CHECKS.due("10: same values", x.merge(0, 2, 3), 4);
        CHECKS.due("10: marks of both", x.marks(4, 4, 1), 12);
        CHECKS.due("10: value", x.about(4, 4, 2), 40);
        x.write(0, 4, 1, 41);
        x.commit(0);
        x.write(0, 4, 1, 40);
        x.commit(0);
        CHECKS.due("10: chosen again on one side", x.marks(6, 4, 1), 64);
        CHECKS.due("10: merge", x.merge(0, 4, 6), 7);
        CHECKS.due("10: an ancestor of another mark goes", x.marks(7, 4, 1), 68);
        x.open(0, 2);
        x.write(0, 4, 1, 43);
        x.commit(0);
        dueConflicts("10: one mark that the other side knows is not each", x, 4, 8, "4:1");
        dueConflicts("10: in the other order", x, 8, 4, "4:1");
    }

    private static void conflictsOfScalars() {
        MarkedTrees x = planted();
        x.move(0, 4, 1, 0);
        x.write(0, 4, 1, 1);
        x.write(0, 4, 2, 1);
        x.write(0, 5, 1, 1);
        x.write(0, 1, 2, 1);
        x.commit(0);
        x.open(0, 1);
        x.move(0, 4, 2, 0);
        x.write(0, 4, 1, 2);
        x.write(0, 4, 2, 2);
        x.write(0, 5, 1, 2);
        x.write(0, 1, 2, 2);
        x.commit(0);
        dueConflicts("10: scalars", x, 2, 3, "1:2 4:0 4:1 4:2 5:1");
        x.decide(0, 4, 1, 1);
        dueConflicts("10: one decided", x, 2, 3, "1:2 4:0 4:2 5:1");
        x.bury(0, 1, true);
        dueConflicts("10: one buried", x, 2, 3, "4:0 4:2 5:1");
        x.decide(0, 4, 1, -1);
        dueConflicts("10: not decided any more", x, 2, 3, "4:0 4:1 4:2 5:1");
        CHECKS.due("10: no revision was made", x.has(0), 15);
    }

    private static void decisionsAndMarks() {
        MarkedTrees x = planted();
        x.write(0, 4, 1, 1);
        x.write(0, 4, 2, 7);
        x.write(0, 5, 1, 5);
        x.write(0, 1, 2, 8);
        x.commit(0);
        x.open(0, 1);
        x.write(0, 4, 1, 2);
        x.write(0, 4, 2, 7);
        x.write(0, 5, 2, 6);
        x.write(0, 2, 2, 9);
        x.commit(0);
        x.decide(0, 4, 1, 0);
        x.decide(0, 4, 2, 1);
        x.decide(0, 5, 1, 1);
        x.decide(0, 5, 2, 0);
        x.decide(0, 1, 2, 0);
        x.decide(0, 2, 2, 1);
        CHECKS.due("10: merge", x.merge(0, 2, 3), 4);
        CHECKS.due("10: decided conflict", x.about(4, 4, 2), 1);
        CHECKS.due("10: its mark", x.marks(4, 4, 1), 16);
        CHECKS.due("10: decided where both are the same", x.about(4, 4, 3), 7);
        CHECKS.due("10: the marks that it has by itself", x.marks(4, 4, 2), 12);
        CHECKS.due("10: decided for b against a", x.about(4, 5, 2), 0);
        CHECKS.due("10: its mark", x.marks(4, 5, 1), 16);
        CHECKS.due("10: decided for a against b", x.about(4, 5, 3), 0);
        CHECKS.due("10: its mark", x.marks(4, 5, 2), 16);
        CHECKS.due("10: decided for a as it is by itself", x.about(4, 1, 3), 8);
        CHECKS.due("10: its marks", x.marks(4, 1, 2), 4);
        CHECKS.due("10: decided for b as it is by itself", x.about(4, 2, 3), 9);
        CHECKS.due("10: its marks", x.marks(4, 2, 2), 8);
    }

    private static void decisionsLast() {
        MarkedTrees x = planted();
        x.write(0, 4, 1, 1);
        x.commit(0);
        x.open(0, 1);
        x.write(0, 4, 1, 2);
        x.write(0, 5, 1, 2);
        x.commit(0);
        x.open(0, 1);
        x.write(0, 5, 1, 1);
        x.write(0, 4, 1, 3);
        x.commit(0);
        x.certify(0, 2, 0, 0);
        x.certify(0, 3, 0, 0);
        x.exchange(0);
        x.decide(1, 4, 1, 1);
        dueConflicts("8: one peer's decision is not the other's", x, 2, 3, "4:1");
        x.decide(0, 4, 1, 0);
        dueConflicts("8: a decision lasts over conflicts", x, 3, 4, "5:1");
        dueConflicts("8: and over another such merge", x, 4, 3, "5:1");
        CHECKS.badArgument("8: and over a merge that is refused", () -> x.merge(0, 2, 1));
        CHECKS.due("8: to one without", x.merge(0, 2, 3), 5);
        CHECKS.due("8: for the first", x.about(5, 4, 2), 1);
        dueConflicts("10: nothing is decided any more", x, 2, 3, "4:1");
        CHECKS.due("10: by this peer", x.merge(1, 2, 3), 6);
        CHECKS.due("10: the other one had decided", x.about(6, 4, 2), 2);
        x.decide(0, 4, 1, 0);
        x.decide(0, 4, 1, 1);
        CHECKS.due("8: the later decision", x.merge(0, 2, 3), 7);
        CHECKS.due("8: for the second", x.about(7, 4, 2), 2);
    }

    private static void decisionsForOneSideOnly() {
        MarkedTrees x = planted();
        x.add(0, 1, 0, false);
        x.write(0, 6, 1, 3);
        x.commit(0);
        x.open(0, 1);
        x.drop(0, 5);
        x.commit(0);
        x.decide(0, 6, 1, 1);
        x.decide(0, 6, 0, 0);
        x.decide(0, 5, 1, 0);
        CHECKS.due("8: for a node alive in one", x.merge(0, 2, 3), 4);
        CHECKS.due("8: nothing of it", x.nodes(0, 4), 0b1011111);
        CHECKS.due("8: value", x.about(4, 6, 2), 3);
        CHECKS.due("8: marks", x.marks(4, 6, 1), 4);
        CHECKS.due("8: marks of the place", x.marks(4, 6, 0), 4);
    }

    private static void burials() {
        MarkedTrees x = planted();
        x.write(0, 4, 1, 1);
        x.add(0, 1, 0, false);
        x.commit(0);
        x.open(0, 1);
        x.write(0, 4, 1, 2);
        x.add(0, 2, 0, false);
        x.commit(0);
        x.bury(0, 6, true);
        x.bury(0, 7, true);
        x.bury(0, 5, true);
        dueConflicts("9: burials alone", x, 2, 3, "4:1");
        x.bury(0, 7, false);
        x.bury(0, 4, true);
        CHECKS.due("9: merge", x.merge(0, 2, 3), 4);
        CHECKS.due("9: buried are out", x.nodes(0, 4), 0b10001111);
        dueConflicts("10: nothing is buried any more", x, 2, 3, "4:1");
        x.decide(0, 4, 1, 0);
        CHECKS.due("10: merge", x.merge(0, 2, 3), 5);
        CHECKS.due("10: all are in", x.nodes(0, 5), 0b11111111);
    }

    private static void missingParents() {
        MarkedTrees x = planted();
        x.drop(0, 1);
        x.drop(0, 2);
        x.write(0, 4, 1, 1);
        x.write(0, 4, 2, 1);
        x.commit(0);
        x.open(0, 1);
        x.move(0, 4, 1, 0);
        x.write(0, 4, 1, 2);
        x.write(0, 4, 2, 2);
        x.move(0, 3, 2, 0);
        x.add(0, 3, 0, false);
        x.commit(0);
        dueConflicts("10: behind the conflicts of scalars", x, 2, 3, "3:3 4:1 4:2 4:3");
        x.decide(0, 4, 0, 0);
        x.decide(0, 4, 1, 0);
        x.decide(0, 4, 2, 0);
        dueConflicts("10: a node in it has a parent", x, 2, 3, "3:3");
        x.bury(0, 3, true);
        dueConflicts("10: buried parent", x, 2, 3, "6:3");
    }

    private static void takenPlaces() {
        MarkedTrees x = planted();
        x.move(0, 5, 1, 0);
        x.add(0, 1, 1, false);
        x.commit(0);
        x.open(0, 1);
        x.move(0, 4, 1, 0);
        x.move(0, 3, 1, 1);
        x.add(0, 2, 0, false);
        x.commit(0);
        dueConflicts("10: the higher numbers", x, 2, 3, "5:4 6:4");
        x.add(0, 2, 1, false);
        x.drop(0, 3);
        x.commit(0);
        x.open(0, 1);
        x.move(0, 2, 1, 0);
        x.commit(0);
        x.decide(0, 4, 0, 0);
        dueConflicts("10: a place is a parent and a name", x, 4, 5, "4:4");
        x.decide(0, 4, 0, 1);
        CHECKS.due("10: decided back", x.merge(0, 4, 5), 6);
        CHECKS.due("10: place", x.about(6, 4, 0), 0);
    }

    private static void takenPlaceAndPlaceInConflict() {
        MarkedTrees x = planted();
        x.move(0, 3, 1, 7);
        x.move(0, 4, 2, 0);
        x.commit(0);
        x.open(0, 1);
        x.move(0, 3, 1, 8);
        x.move(0, 5, 1, 7);
        x.add(0, 1, 9, false);
        x.commit(0);
        x.open(0, 3);
        x.drop(0, 6);
        x.add(0, 2, 0, false);
        x.commit(0);
        dueConflicts("10: a place in conflict takes none", x, 2, 3, "3:0");
        x.decide(0, 3, 0, 0);
        dueConflicts("10: once decided it does", x, 2, 3, "5:4");
        x.decide(0, 3, 0, 1);
        dueConflicts("10: the other one does not", x, 2, 4, "7:4");
    }

    private static void circles() {
        MarkedTrees x = planted();
        x.move(0, 1, 2, 0);
        x.commit(0);
        x.open(0, 1);
        x.move(0, 2, 3, 0);
        x.move(0, 4, 1, 9);
        x.commit(0);
        x.open(0, 1);
        x.move(0, 3, 1, 0);
        x.commit(0);
        CHECKS.due("10: two moves without a circle", x.merge(0, 2, 3), 5);
        dueConflicts("10: a circle of three, and a file that leads to it", x, 5, 4, "1:5 2:5 3:5");
        x.open(0, 4);
        x.add(0, 3, 0, false);
        x.commit(0);
        dueConflicts("10: a taken place in a circle", x, 6, 5, "1:5 2:5 3:5 6:4");
        x.bury(0, 3, true);
        dueConflicts("10: a circle broken by a burial", x, 6, 5, "2:3 6:3");

        MarkedTrees y = planted();
        y.move(0, 3, 2, 0);
        y.commit(0);
        y.open(0, 1);
        y.move(0, 2, 3, 0);
        y.move(0, 1, 2, 0);
        y.commit(0);
        dueConflicts("10: a taken place comes ahead of a circle", y, 2, 3, "2:5 3:4");
    }

    private static void waysThatEnd() {
        MarkedTrees x = planted();
        x.move(0, 1, 2, 0);
        x.commit(0);
        x.open(0, 1);
        x.move(0, 2, 1, 0);
        x.move(0, 1, 3, 0);
        x.commit(0);
        dueConflicts("10: a way ends at a place in conflict", x, 2, 3, "1:0");
        x.decide(0, 1, 0, 0);
        dueConflicts("10: decided it goes round", x, 2, 3, "1:5 2:5");
        x.decide(0, 1, 0, 1);
        CHECKS.due("10: decided it goes to the root", x.merge(0, 2, 3), 4);
        CHECKS.due("10: place", x.about(4, 1, 0), 3);
        CHECKS.due("10: mark of the merge alone", x.marks(4, 1, 0), 16);

        MarkedTrees y = planted();
        y.move(0, 1, 3, 1);
        y.move(0, 2, 1, 0);
        y.add(0, 3, 2, true);
        y.move(0, 1, 6, 0);
        y.commit(0);
        y.open(0, 1);
        y.move(0, 3, 2, 0);
        y.commit(0);
        dueConflicts("10: a circle of four", y, 2, 3, "1:5 2:5 3:5 6:5");
        y.bury(0, 6, true);
        dueConflicts("10: a way ends at a missing parent", y, 2, 3, "1:3");
    }

    /** The n-th of 20 places: ten in the root, then ten in directory 1. */
    private static void moveTo(MarkedTrees x, int node, int place) {
        x.move(0, node, place / 10, place % 10);
    }

    private static void everyNodeInConflict() {
        MarkedTrees x = new MarkedTrees();
        x.open(0, 0);
        for (int node = 1; node < 16; node++) {
            x.add(0, (node - 1) / 10, (node - 1) % 10, node == 1);
        }
        x.commit(0);
        for (int side = 1; side <= 2; side++) {
            x.open(0, 1);
            for (int node = 15; node > 0; node--) {
                moveTo(x, node, node - 1 + side);
                x.write(0, node, 2, side);
                if (node != 1) {
                    x.write(0, node, 1, side);
                }
            }
            x.commit(0);
        }
        StringBuilder due = new StringBuilder("1:0 1:2");
        for (int node = 2; node < 16; node++) {
            for (int kind = 0; kind < 3; kind++) {
                due.append(' ').append(node).append(':').append(kind);
            }
        }
        dueConflicts("10: as many conflicts as there can be", x, 2, 3, due.toString());
    }

    private static void listing() {
        MarkedTrees x = planted();
        x.write(0, 4, 1, 1);
        x.commit(0);
        x.open(0, 1);
        x.write(0, 4, 1, 2);
        x.commit(0);
        x.open(0, 1);
        x.write(0, 5, 2, 2);
        x.commit(0);
        CHECKS.due("11: merge", x.merge(0, 2, 3), -1);
        CHECKS.due("11: node", x.conflict(0, 0, 0), 4);
        CHECKS.due("11: kind", x.conflict(0, 0, 1), 1);
        CHECKS.badArgument("11: what 2", () -> x.conflict(0, 0, 2));
        CHECKS.badArgument("11: what -1", () -> x.conflict(0, 0, -1));
        CHECKS.badArgument("11: i 1", () -> x.conflict(0, 1, 0));
        CHECKS.badArgument("11: i -1", () -> x.conflict(0, -1, 0));
        CHECKS.badArgument("11: i 99", () -> x.conflict(0, 99, 1));
        CHECKS.badArgument("11: nothing listed for the other peer", () -> x.conflict(1, 0, 0));
        CHECKS.noElement("11: peer", () -> x.conflict(2, 0, 0));
        CHECKS.noElement("11: peer ahead of what", () -> x.conflict(-1, 9, 9));
        CHECKS.badArgument("11: a merge that is refused", () -> x.merge(0, 1, 2));
        CHECKS.due("11: leaves the list", x.conflict(0, 0, 0), 4);
        CHECKS.due("11: a merge without conflicts", x.merge(0, 2, 4), 5);
        CHECKS.badArgument("11: lists none", () -> x.conflict(0, 0, 0));
    }
}
