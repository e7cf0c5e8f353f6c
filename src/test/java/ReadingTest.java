/** Promises 12 to 15: what is told of nodes, marks and ancestors. */
public final class ReadingTest {
    private static final Checks CHECKS = new Checks("ReadingTest");

    public static void main(String[] args) {
        about();
        marks();
        nodes();
        ancestors();
        CHECKS.end();
    }

    /** Revision 1: directory 1 with file 2 in it; revision 2 on it: the file moved and written. */
    private static MarkedTrees written() {
        MarkedTrees x = new MarkedTrees();
        x.open(1, 0);
        x.add(1, 0, 3, true);
        x.add(1, 1, 4, false);
        x.commit(1);
        x.move(1, 2, 0, 9);
        x.write(1, 2, 1, 50);
        x.write(1, 1, 2, -7);
        x.add(1, 1, 4, false);
        x.commit(1);
        return x;
    }

    private static void about() {
        MarkedTrees x = written();
        int[][] due = {
            {1, 0, -1, -1, 0, 0, 0, 1}, {1, 1, 0, 3, 0, 0, 1, 1}, {1, 2, 1, 4, 0, 0, 1, 0},
            {2, 0, -1, -1, 0, 0, 0, 1}, {2, 1, 0, 3, 0, -7, 1, 1}, {2, 2, 0, 9, 50, 0, 1, 0},
            {2, 3, 1, 4, 0, 0, 2, 0}, {0, 0, -1, -1, 0, 0, 0, 1},
        };
        for (int[] row : due) {
            for (int what = 0; what < 6; what++) {
                CHECKS.due("12: about " + row[0] + " " + row[1] + " " + what, x.about(row[0], row[1], what), row[what + 2]);
            }
        }
        CHECKS.badArgument("12: what 6", () -> x.about(1, 1, 6));
        CHECKS.badArgument("12: what -1", () -> x.about(1, 1, -1));
        CHECKS.badArgument("12: what 6 of the root", () -> x.about(1, 0, 6));
        CHECKS.noElement("12: not alive yet", () -> x.about(1, 3, 0));
        CHECKS.noElement("12: ahead of what", () -> x.about(1, 3, 6));
        CHECKS.noElement("12: node -1", () -> x.about(1, -1, 0));
        CHECKS.noElement("12: node 16", () -> x.about(1, 16, 0));
        CHECKS.noElement("12: node 32", () -> x.about(1, 32, 0));
        CHECKS.noElement("12: node 64", () -> x.about(1, 64, 0));
        CHECKS.noElement("12: revision 3", () -> x.about(3, 0, 0));
        CHECKS.noElement("12: revision -1", () -> x.about(-1, 0, 0));
        CHECKS.noElement("12: revision 40", () -> x.about(40, 0, 0));
        x.drop(1, 3);
        x.commit(1);
        CHECKS.noElement("12: dropped", () -> x.about(3, 3, 0));
        CHECKS.due("12: alive before", x.about(2, 3, 4), 2);
    }

    private static void marks() {
        MarkedTrees x = written();
        int[][] due = {{1, 1, 2, 2, 2}, {1, 2, 2, 2, 2}, {2, 1, 2, 2, 4}, {2, 2, 4, 4, 2}, {2, 3, 4, 4, 4}};
        for (int[] row : due) {
            for (int which = 0; which < 3; which++) {
                CHECKS.due("13: marks " + row[0] + " " + row[1] + " " + which, x.marks(row[0], row[1], which), row[which + 2]);
            }
        }
        x.write(1, 2, 1, 51);
        x.commit(1);
        x.write(1, 2, 1, 50);
        x.commit(1);
        CHECKS.due("13: an old value chosen anew", x.marks(4, 2, 1), 16);
        x.move(1, 2, 0, 8);
        x.commit(1);
        CHECKS.due("13: another name alone", x.marks(5, 2, 0), 32);
        CHECKS.due("13: leaves the content's", x.marks(5, 2, 1), 16);
        x.move(1, 2, 1, 8);
        x.commit(1);
        CHECKS.due("13: another parent alone", x.marks(6, 2, 0), 64);
        x.write(1, 2, 1, 1);
        x.write(1, 2, 1, 50);
        x.write(1, 2, 2, 1);
        x.commit(1);
        CHECKS.due("13: there and back within one", x.marks(7, 2, 1), 16);
        CHECKS.due("13: beside a change", x.marks(7, 2, 2), 128);
        CHECKS.badArgument("13: which 3", () -> x.marks(1, 1, 3));
        CHECKS.badArgument("13: which -1", () -> x.marks(1, 1, -1));
        CHECKS.badArgument("13: the root", () -> x.marks(1, 0, 0));
        CHECKS.noElement("13: not alive", () -> x.marks(1, 3, 0));
        CHECKS.noElement("13: ahead of which", () -> x.marks(1, 3, 3));
        CHECKS.noElement("13: node -1", () -> x.marks(1, -1, 0));
        CHECKS.noElement("13: node 16", () -> x.marks(1, 16, 0));
        CHECKS.noElement("13: revision 8", () -> x.marks(8, 1, 0));
        CHECKS.noElement("13: revision -1", () -> x.marks(-1, 1, 0));
    }

    private static void nodes() {
        MarkedTrees x = written();
        CHECKS.due("14: revision 0", x.nodes(1, 0), 1);
        CHECKS.due("14: revision 1", x.nodes(1, 1), 7);
        CHECKS.due("14: revision 2", x.nodes(1, 2), 15);
        x.drop(1, 3);
        CHECKS.due("14: workspace", x.nodes(1, -1), 7);
        CHECKS.due("14: no workspace", x.nodes(0, -1), 0);
        CHECKS.noElement("14: the peer does not have it", () -> x.nodes(0, 1));
        CHECKS.noElement("14: revision 3", () -> x.nodes(1, 3));
        CHECKS.noElement("14: revision -2", () -> x.nodes(1, -2));
        CHECKS.noElement("14: peer 2", () -> x.nodes(2, 0));
        CHECKS.noElement("14: peer 2, workspace", () -> x.nodes(2, -1));
    }

    private static void ancestors() {
        MarkedTrees x = written();
        CHECKS.due("15: of 0", x.ancestors(0), 0);
        CHECKS.due("15: of 1", x.ancestors(1), 1);
        CHECKS.due("15: of 2", x.ancestors(2), 3);
        x.open(1, 0);
        x.add(1, 0, 1, true);
        x.commit(1);
        CHECKS.due("15: of 3", x.ancestors(3), 1);
        CHECKS.due("15: merge", x.merge(1, 3, 1), 4);
        CHECKS.due("15: of the merge", x.ancestors(4), 11);
        CHECKS.due("15: merge of the merge", x.merge(1, 4, 2), 5);
        CHECKS.due("15: of that", x.ancestors(5), 31);
        CHECKS.noElement("15: revision 6", () -> x.ancestors(6));
        CHECKS.noElement("15: revision -1", () -> x.ancestors(-1));
    }
}
