/** Promises 1 to 7: a new object, and the work in a workspace up to its commit. */
public final class WorkspaceTest {
    private static final Checks CHECKS = new Checks("WorkspaceTest");

    public static void main(String[] args) {
        newObject();
        open();
        add();
        addToTheLimit();
        drop();
        move();
        write();
        commit();
        commitToTheLimit();
        withoutWorkspace();
        CHECKS.end();
    }

    private static void newObject() {
        MarkedTrees x = new MarkedTrees();
        for (int peer = 0; peer < 2; peer++) {
            int p = peer;
            CHECKS.due("1: has", x.has(p), 1);
            CHECKS.due("1: nodes of revision 0", x.nodes(p, 0), 1);
            CHECKS.due("1: nodes of no workspace", x.nodes(p, -1), 0);
            CHECKS.badState("1: commit without a workspace", () -> x.commit(p));
            CHECKS.badArgument("1: no conflict listed", () -> x.conflict(p, 0, 0));
            for (int branch = 0; branch < 3; branch++) {
                CHECKS.due("1: heads", x.heads(p, branch), 0);
                CHECKS.due("1: exchange", x.exchange(branch), 0);
            }
            for (int key = 0; key < 4; key++) {
                CHECKS.due("1: trusts", x.trust(p, key, true), true);
            }
        }
        CHECKS.due("1: ancestors of 0", x.ancestors(0), 0);
        CHECKS.noElement("1: revision 1", () -> x.ancestors(1));
        CHECKS.noElement("1: node 1", () -> x.bury(0, 1, true));
    }

    private static void open() {
        MarkedTrees x = new MarkedTrees();
        x.open(0, 0);
        CHECKS.due("2: nodes of the workspace", x.nodes(0, -1), 1);
        CHECKS.due("2: the other peer has no workspace", x.nodes(1, -1), 0);
        x.add(0, 0, 1, true);
        x.add(0, 0, 2, true);
        CHECKS.due("2: first commit", x.commit(0), 1);
        x.drop(0, 1);
        CHECKS.due("2: work on the workspace", x.nodes(0, -1), 5);
        CHECKS.due("2: leaves the revision alone", x.nodes(0, 1), 7);
        x.open(0, 1);
        CHECKS.due("2: opened again", x.nodes(0, -1), 7);
        CHECKS.badState("2: nothing to commit", () -> x.commit(0));
        x.drop(0, 2);
        CHECKS.due("2: commit on what was opened", x.commit(0), 2);
        CHECKS.due("2: its ancestors", x.ancestors(2), 3);
        x.open(0, 0);
        CHECKS.due("2: older revision", x.nodes(0, -1), 1);
        CHECKS.noElement("2: peer 2", () -> x.open(2, 0));
        CHECKS.noElement("2: peer -1", () -> x.open(-1, 0));
        CHECKS.noElement("2: revision -1", () -> x.open(0, -1));
        CHECKS.noElement("2: revision 3", () -> x.open(0, 3));
        CHECKS.noElement("2: revision 64", () -> x.open(0, 64));
        CHECKS.noElement("2: a revision that the peer does not have", () -> x.open(1, 1));
        CHECKS.due("2: which changed nothing", x.nodes(1, -1), 0);
        CHECKS.due("2: nor this", x.nodes(0, -1), 1);
    }

    private static void add() {
        MarkedTrees x = new MarkedTrees();
        x.open(0, 0);
        x.open(1, 0);
        CHECKS.due("3: directory", x.add(0, 0, 0, true), 1);
        CHECKS.due("3: file in it", x.add(0, 1, 9, false), 2);
        CHECKS.due("3: numbers go over both peers", x.add(1, 0, 0, false), 3);
        CHECKS.due("3: same name elsewhere", x.add(0, 1, 0, false), 4);
        CHECKS.due("3: nodes", x.nodes(0, -1), 0b10111);
        CHECKS.due("3: nodes of the other peer", x.nodes(1, -1), 0b1001);
        CHECKS.noElement("3: peer 2", () -> x.add(2, 0, 1, true));
        CHECKS.noElement("3: parent is not alive there", () -> x.add(0, 3, 1, true));
        CHECKS.noElement("3: parent 5", () -> x.add(0, 5, 1, true));
        CHECKS.noElement("3: parent -1", () -> x.add(0, -1, 1, true));
        CHECKS.noElement("3: parent 32", () -> x.add(0, 32, 1, true));
        CHECKS.noElement("3: parent ahead of name", () -> x.add(0, 5, 10, true));
        CHECKS.badArgument("3: parent is a file", () -> x.add(0, 2, 1, true));
        CHECKS.badArgument("3: name 10", () -> x.add(0, 0, 10, true));
        CHECKS.badArgument("3: name -1", () -> x.add(0, 0, -1, true));
        CHECKS.badArgument("3: name -1 would be the place 0 9", () -> x.add(0, 1, -1, true));
        CHECKS.badArgument("3: taken place", () -> x.add(0, 1, 9, true));
        CHECKS.due("3: no number was used", x.add(0, 0, 1, false), 5);
        x.commit(0);
        CHECKS.due("3: parent", x.about(1, 2, 0), 1);
        CHECKS.due("3: name", x.about(1, 2, 1), 9);
        CHECKS.due("3: content", x.about(1, 2, 2), 0);
        CHECKS.due("3: attribute", x.about(1, 2, 3), 0);
        CHECKS.due("3: directory", x.about(1, 1, 5), 1);
        CHECKS.due("3: file", x.about(1, 2, 5), 0);
        x.drop(0, 2);
        CHECKS.due("3: a place that was left", x.add(0, 1, 9, false), 6);
    }

    private static void addToTheLimit() {
        MarkedTrees x = new MarkedTrees();
        x.open(0, 0);
        x.open(1, 0);
        for (int node = 1; node <= 14; node++) {
            CHECKS.due("3: node", x.add(0, node % 2 == 0 ? node - 1 : 0, node / 2, node % 2 == 1), node);
        }
        x.open(0, 0);
        CHECKS.due("3: last node, numbers are not used again", x.add(1, 0, 0, true), 15);
        CHECKS.badState("3: 16 nodes", () -> x.add(1, 0, 1, true));
        CHECKS.badState("3: 16 nodes for the other peer too", () -> x.add(0, 0, 1, true));
        CHECKS.badArgument("3: taken place ahead of 16 nodes", () -> x.add(1, 0, 0, true));
        CHECKS.badArgument("3: name ahead of 16 nodes", () -> x.add(1, 0, 10, true));
        CHECKS.noElement("3: parent ahead of 16 nodes", () -> x.add(1, 1, 1, true));
        CHECKS.noElement("3: parent 16", () -> x.add(1, 16, 1, true));
        x.drop(1, 15);
        CHECKS.badState("3: dropping makes no room", () -> x.add(1, 0, 1, true));
    }

    private static void drop() {
        MarkedTrees x = new MarkedTrees();
        x.open(0, 0);
        x.add(0, 0, 1, true);
        x.add(0, 1, 2, false);
        CHECKS.badArgument("4: the root", () -> x.drop(0, 0));
        CHECKS.badArgument("4: directory with a node in it", () -> x.drop(0, 1));
        CHECKS.noElement("4: node 3", () -> x.drop(0, 3));
        CHECKS.noElement("4: node -1", () -> x.drop(0, -1));
        CHECKS.noElement("4: node 16", () -> x.drop(0, 16));
        CHECKS.noElement("4: node 33", () -> x.drop(0, 33));
        CHECKS.noElement("4: peer 2", () -> x.drop(2, 1));
        CHECKS.due("4: nothing changed", x.nodes(0, -1), 7);
        x.drop(0, 2);
        CHECKS.due("4: file dropped", x.nodes(0, -1), 3);
        CHECKS.noElement("4: dropped twice", () -> x.drop(0, 2));
        CHECKS.due("4: another directory", x.add(0, 0, 2, true), 3);
        x.move(0, 1, 3, 0);
        CHECKS.badArgument("4: directory with a node of a lower number in it", () -> x.drop(0, 3));
        x.drop(0, 1);
        x.drop(0, 3);
        CHECKS.due("4: empty directories dropped", x.nodes(0, -1), 1);
        CHECKS.badArgument("4: the root with nothing in it", () -> x.drop(0, 0));
        CHECKS.badState("4: the tree is that of the base again", () -> x.commit(0));
    }

    private static void move() {
        MarkedTrees x = new MarkedTrees();
        x.open(0, 0);
        x.add(0, 0, 1, true);
        x.add(0, 1, 2, true);
        x.add(0, 2, 3, true);
        x.add(0, 0, 4, false);
        x.add(0, 0, 5, false);
        x.drop(0, 5);
        CHECKS.noElement("5: peer -1", () -> x.move(-1, 1, 0, 1));
        CHECKS.noElement("5: node 5", () -> x.move(0, 5, 0, 1));
        CHECKS.noElement("5: parent 5", () -> x.move(0, 1, 5, 1));
        CHECKS.noElement("5: parent -1", () -> x.move(0, 1, -1, 1));
        CHECKS.noElement("5: node 16", () -> x.move(0, 16, 0, 1));
        CHECKS.noElement("5: parent ahead of the root", () -> x.move(0, 0, 5, 1));
        CHECKS.badArgument("5: the root", () -> x.move(0, 0, 1, 7));
        CHECKS.badArgument("5: parent is a file", () -> x.move(0, 1, 4, 1));
        CHECKS.badArgument("5: name 10", () -> x.move(0, 1, 0, 10));
        CHECKS.badArgument("5: name -1", () -> x.move(0, 1, 0, -1));
        CHECKS.badArgument("5: another node has that place", () -> x.move(0, 2, 0, 4));
        CHECKS.badArgument("5: parent is the node", () -> x.move(0, 1, 1, 7));
        CHECKS.badArgument("5: parent lies in it", () -> x.move(0, 1, 2, 7));
        CHECKS.badArgument("5: parent lies deeper in it", () -> x.move(0, 1, 3, 7));
        x.move(0, 1, 0, 1);
        x.commit(0);
        CHECKS.due("5: nothing moved before", x.about(1, 1, 0) * 10 + x.about(1, 1, 1), 1);
        x.move(0, 4, 3, 4);
        x.move(0, 3, 0, 4);
        x.move(0, 1, 3, 0);
        x.commit(0);
        CHECKS.due("5: parent of 4", x.about(2, 4, 0), 3);
        CHECKS.due("5: name of 4", x.about(2, 4, 1), 4);
        CHECKS.due("5: parent of 3", x.about(2, 3, 0), 0);
        CHECKS.due("5: name of 3", x.about(2, 3, 1), 4);
        CHECKS.due("5: parent of 1", x.about(2, 1, 0), 3);
        CHECKS.due("5: parent of 2 goes along", x.about(2, 2, 0), 1);
        x.move(0, 1, 0, 9);
        x.move(0, 1, 3, 0);
        CHECKS.badState("5: there and back is no change", () -> x.commit(0));
    }

    private static void write() {
        MarkedTrees x = new MarkedTrees();
        x.open(0, 0);
        x.add(0, 0, 1, true);
        x.add(0, 0, 2, false);
        x.write(0, 1, 2, -3);
        x.write(0, 2, 1, Integer.MIN_VALUE);
        x.write(0, 2, 2, Integer.MAX_VALUE);
        CHECKS.badArgument("6: content of a directory", () -> x.write(0, 1, 1, 0));
        CHECKS.badArgument("6: the root", () -> x.write(0, 0, 2, 1));
        CHECKS.badArgument("6: which 0", () -> x.write(0, 2, 0, 1));
        CHECKS.badArgument("6: which 3", () -> x.write(0, 2, 3, 1));
        CHECKS.badArgument("6: which -1", () -> x.write(0, 2, -1, 1));
        CHECKS.noElement("6: node 3", () -> x.write(0, 3, 2, 1));
        CHECKS.noElement("6: node -1 ahead of which", () -> x.write(0, -1, 7, 1));
        CHECKS.noElement("6: peer 2", () -> x.write(2, 1, 2, 1));
        x.commit(0);
        CHECKS.due("6: attribute of a directory", x.about(1, 1, 3), -3);
        CHECKS.due("6: content of a directory", x.about(1, 1, 2), 0);
        CHECKS.due("6: content", x.about(1, 2, 2), Integer.MIN_VALUE);
        CHECKS.due("6: attribute", x.about(1, 2, 3), Integer.MAX_VALUE);
        x.write(0, 2, 1, 5);
        CHECKS.due("6: the revision stays", x.about(1, 2, 2), Integer.MIN_VALUE);
        x.write(0, 2, 1, Integer.MIN_VALUE);
        CHECKS.badState("6: there and back is no change", () -> x.commit(0));
    }

    private static void commit() {
        MarkedTrees x = new MarkedTrees();
        x.open(0, 0);
        CHECKS.badState("7: tree of the base", () -> x.commit(0));
        CHECKS.noElement("7: peer 2", () -> x.commit(2));
        x.add(0, 0, 1, false);
        CHECKS.due("7: number", x.commit(0), 1);
        CHECKS.due("7: the peer has it", x.has(0), 3);
        CHECKS.due("7: the other one has not", x.has(1), 1);
        CHECKS.due("7: the workspace stays", x.nodes(0, -1), 3);
        CHECKS.badState("7: it is the base", () -> x.commit(0));
        x.write(0, 1, 2, 8);
        CHECKS.due("7: next", x.commit(0), 2);
        CHECKS.due("7: base as parent", x.ancestors(2), 3);
        x.open(1, 0);
        x.add(1, 0, 1, false);
        CHECKS.due("7: the other peer's number", x.commit(1), 3);
        CHECKS.due("7: its parent", x.ancestors(3), 1);
        CHECKS.due("7: nothing else is had", x.has(1), 9);
        x.drop(1, 2);
        CHECKS.due("7: a node less", x.commit(1), 4);
        CHECKS.due("7: nodes", x.nodes(1, 4), 1);
        CHECKS.due("7: nodes before", x.nodes(1, 3), 5);
    }

    private static void commitToTheLimit() {
        MarkedTrees x = new MarkedTrees();
        x.open(0, 0);
        x.add(0, 0, 1, false);
        for (int r = 1; r < 39; r++) {
            x.write(0, 1, 2, r);
            CHECKS.due("7: revision", x.commit(0), r);
        }
        x.open(1, 0);
        x.add(1, 0, 1, false);
        CHECKS.due("7: the last one", x.commit(1), 39);
        x.write(0, 1, 2, 99);
        CHECKS.badState("7: 40 revisions", () -> x.commit(0));
        CHECKS.due("7: ancestors of 38", x.ancestors(38), (1L << 38) - 1);
        CHECKS.due("7: has", x.has(0), (1L << 39) - 1);
        CHECKS.due("7: marks of 38", x.marks(38, 1, 2), 1L << 38);
        CHECKS.noElement("7: no revision 40", () -> x.ancestors(40));
        x.certify(1, 39, 0, 0);
        CHECKS.due("7: exchange", x.exchange(0), 2);
        CHECKS.badState("10: 40 revisions", () -> x.merge(0, 38, 39));
        CHECKS.badArgument("10: ancestor ahead of 40 revisions", () -> x.merge(0, 38, 37));
        CHECKS.noElement("10: revision ahead of 40 revisions", () -> x.merge(1, 38, 39));
    }

    private static void withoutWorkspace() {
        MarkedTrees x = new MarkedTrees();
        CHECKS.badState("3: no workspace ahead of all", () -> x.add(1, 7, 10, true));
        CHECKS.badState("4: no workspace ahead of all", () -> x.drop(1, 7));
        CHECKS.badState("5: no workspace ahead of all", () -> x.move(1, 7, 7, 10));
        CHECKS.badState("6: no workspace ahead of all", () -> x.write(1, 7, 9, 1));
        CHECKS.noElement("3: but the peer", () -> x.add(2, 0, 1, true));
        CHECKS.noElement("4: but the peer", () -> x.drop(2, 0));
        CHECKS.noElement("5: but the peer", () -> x.move(2, 0, 0, 1));
        CHECKS.noElement("6: but the peer", () -> x.write(2, 0, 0, 1));
    }
}
