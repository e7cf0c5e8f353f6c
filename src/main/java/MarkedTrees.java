import java.util.Arrays;
import java.util.NoSuchElementException;

/**
 * Trees of directories and files in revisions that two peers make, merge and exchange.
 * Sets of revisions and of nodes are held as bits: bit k stands for revision or node k.
 */
public final class MarkedTrees {
    private static final int MOST_REVISIONS = 40;
    private static final int MOST_NODES = 16;
    private static final int NAMES = 10;
    private static final int KEYS = 4;
    private static final int BRANCHES = 3;

    private static final int ROOT = 0;
    private static final int NONE = -1;

    private static final int SCALARS = 3;
    private static final int PLACE = 0;
    private static final int CONTENT = 1;
    private static final int ATTRIBUTE = 2;

    private static final int SIDE_A = 0;
    private static final int SIDE_B = 1;
    private static final int BOTH_SIDES = 2;

    private static final int PARENT_MISSING = 3;
    private static final int PLACE_TAKEN = 4;
    private static final int CIRCLE = 5;

    private final Peer first = new Peer();
    private final Peer second = new Peer();

    private final Tree[] trees = new Tree[MOST_REVISIONS];
    private final long[] older = new long[MOST_REVISIONS];
    private int revisionCount = 1;

    private final int[] births = new int[MOST_NODES];
    private int directories = 1;
    private int nodeCount = 1;

    /** The tree of the merge under way, with a bit of undecided for each scalar in conflict. */
    private final Tree merged = new Tree();
    private long undecided;

    public MarkedTrees() {
        for (int r = 0; r < MOST_REVISIONS; r++) {
            trees[r] = new Tree();
        }
    }

    public void open(int peer, int r) throws NoSuchElementException {
        Peer p = peerOf(peer);
        requireHeld(p, r);
        p.workspace.copyFrom(trees[r]);
        p.base = r;
    }

    public int add(int peer, int parent, int name, boolean directory)
            throws NoSuchElementException, IllegalArgumentException, IllegalStateException {
        Tree workspace = workspaceOf(peer);
        requireAlive(workspace, parent);
        requirePlace(parent, name);
        int place = placeOf(parent, name);
        if (workspace.lowestAt(place) != NONE) {
            throw new IllegalArgumentException("a node has that place");
        }
        if (nodeCount >= MOST_NODES) {
            throw new IllegalStateException("there are 16 nodes");
        }
        int node = nodeCount;
        nodeCount++;
        if (directory) {
            directories |= 1 << node;
        }
        workspace.plant(node, place);
        return node;
    }

    public void drop(int peer, int node)
            throws NoSuchElementException, IllegalArgumentException, IllegalStateException {
        Tree workspace = workspaceOf(peer);
        requireAlive(workspace, node);
        requireNotRoot(node);
        if (workspace.isParent(node)) {
            throw new IllegalArgumentException("a node is in it");
        }
        workspace.takeOut(node);
    }

    public void move(int peer, int node, int parent, int name)
            throws NoSuchElementException, IllegalArgumentException, IllegalStateException {
        Tree workspace = workspaceOf(peer);
        requireAlive(workspace, node);
        requireAlive(workspace, parent);
        requireNotRoot(node);
        requirePlace(parent, name);
        int place = placeOf(parent, name);
        int holder = workspace.lowestAt(place);
        if (holder != NONE && holder != node) {
            throw new IllegalArgumentException("another node has that place");
        }
        if (workspace.leadsTo(parent, node)) {
            throw new IllegalArgumentException("parent is the node or lies in it");
        }
        workspace.setValue(node, PLACE, place);
    }

    public void write(int peer, int node, int which, int v)
            throws NoSuchElementException, IllegalArgumentException, IllegalStateException {
        Tree workspace = workspaceOf(peer);
        requireAlive(workspace, node);
        requireNotRoot(node);
        if (which != CONTENT && which != ATTRIBUTE) {
            throw new IllegalArgumentException("neither content nor attribute");
        }
        if (which == CONTENT && isDirectory(node)) {
            throw new IllegalArgumentException("a directory has no content");
        }
        workspace.setValue(node, which, v);
    }

    public int commit(int peer) throws NoSuchElementException, IllegalStateException {
        Peer p = peerOf(peer);
        requireWorkspace(p);
        int base = p.base;
        if (p.workspace.sameAs(trees[base])) {
            throw new IllegalStateException("the tree is that of the base");
        }
        requireRoomForRevision();
        int r = makeRevision(p, upTo(base), p.workspace);
        markChanges(r, base);
        p.base = r;
        return r;
    }

    public void decide(int peer, int node, int which, int side)
            throws NoSuchElementException, IllegalArgumentException {
        Peer p = peerOf(peer);
        requireAdded(node);
        requireNotRoot(node);
        requireScalar(which);
        if (side != SIDE_A && side != SIDE_B && side != NONE) {
            throw new IllegalArgumentException("no such side");
        }
        p.decisions[slot(node, which)] = side;
    }

    public void bury(int peer, int node, boolean buried)
            throws NoSuchElementException, IllegalArgumentException {
        Peer p = peerOf(peer);
        requireAdded(node);
        requireNotRoot(node);
        if (buried) {
            p.buried |= 1 << node;
        } else {
            p.buried &= ~(1 << node);
        }
    }

    public int merge(int peer, int a, int b)
            throws NoSuchElementException, IllegalArgumentException, IllegalStateException {
        Peer p = peerOf(peer);
        requireHeld(p, a);
        requireHeld(p, b);
        if (isIn(upTo(a), b) || isIn(upTo(b), a)) {
            throw new IllegalArgumentException("one is the other or an ancestor of it");
        }
        requireRoomForRevision();
        mergeTrees(p, a, b);
        listConflicts(p);
        if (p.listed > 0) {
            return -p.listed;
        }
        p.forgetDecisions();
        return makeRevision(p, upTo(a) | upTo(b), merged);
    }

    public int conflict(int peer, int i, int what)
            throws NoSuchElementException, IllegalArgumentException {
        Peer p = peerOf(peer);
        if (i < 0 || i >= p.listed) {
            throw new IllegalArgumentException("no such conflict is listed");
        }
        switch (what) {
            case 0: return p.listedNodes[i];
            case 1: return p.listedKinds[i];
            default: throw new IllegalArgumentException("neither node nor kind");
        }
    }

    public int about(int r, int node, int what)
            throws NoSuchElementException, IllegalArgumentException {
        requireRevision(r);
        Tree tree = trees[r];
        requireAlive(tree, node);
        switch (what) {
            case 0: return tree.parentOf(node);
            case 1: return tree.nameOf(node);
            case 2: return tree.valueOf(node, CONTENT);
            case 3: return tree.valueOf(node, ATTRIBUTE);
            case 4: return births[node];
            case 5: return isDirectory(node) ? 1 : 0;
            default: throw new IllegalArgumentException("nothing is told by that number");
        }
    }

    public long marks(int r, int node, int which)
            throws NoSuchElementException, IllegalArgumentException {
        requireRevision(r);
        requireAlive(trees[r], node);
        requireNotRoot(node);
        requireScalar(which);
        return trees[r].marksOf(node, which);
    }

    public long nodes(int peer, int r) throws NoSuchElementException {
        Peer p = peerOf(peer);
        if (r == NONE) {
            return p.base == NONE ? 0 : p.workspace.alive;
        }
        requireHeld(p, r);
        return trees[r].alive;
    }

    public long ancestors(int r) throws NoSuchElementException {
        requireRevision(r);
        return older[r];
    }

    public boolean certify(int peer, int r, int key, int branch) throws NoSuchElementException {
        Peer p = peerOf(peer);
        requireHeld(p, r);
        requireKey(key);
        requireBranch(branch);
        int kind = certificateKind(key, branch);
        boolean isNew = !isIn(p.certificates[kind], r);
        p.certificates[kind] |= 1L << r;
        return isNew;
    }

    public boolean trust(int peer, int key, boolean trusted) throws NoSuchElementException {
        Peer p = peerOf(peer);
        requireKey(key);
        boolean before = p.trusts(key);
        if (trusted) {
            p.trustedKeys |= 1 << key;
        } else {
            p.trustedKeys &= ~(1 << key);
        }
        return before;
    }

    public long heads(int peer, int branch) throws NoSuchElementException {
        Peer p = peerOf(peer);
        requireBranch(branch);
        return latestOf(p.membersOf(branch));
    }

    public int exchange(int branch) throws NoSuchElementException {
        requireBranch(branch);
        // Both are worked out first: what is received may make more members. (The certificates
        // that the second one gets from the first one are no news to that one.)
        long fromFirst = withAncestors(first.membersOf(branch));
        long fromSecond = withAncestors(second.membersOf(branch));
        return second.receive(first, fromFirst) + first.receive(second, fromSecond);
    }

    public long has(int peer) throws NoSuchElementException {
        return peerOf(peer).held;
    }

    private Peer peerOf(int peer) {
        if (peer != 0 && peer != 1) {
            throw new NoSuchElementException("no such peer");
        }
        return peer == 0 ? first : second;
    }

    private Tree workspaceOf(int peer) {
        Peer p = peerOf(peer);
        requireWorkspace(p);
        return p.workspace;
    }

    private static void requireWorkspace(Peer p) {
        if (p.base == NONE) {
            throw new IllegalStateException("the peer has no workspace");
        }
    }

    private void requireRevision(int r) {
        if (r < 0 || r >= revisionCount) {
            throw new NoSuchElementException("no such revision");
        }
    }

    private void requireHeld(Peer p, int r) {
        requireRevision(r);
        if (!isIn(p.held, r)) {
            throw new NoSuchElementException("the peer does not have the revision");
        }
    }

    private void requireRoomForRevision() {
        if (revisionCount >= MOST_REVISIONS) {
            throw new IllegalStateException("there are 40 revisions");
        }
    }

    private static void requireAlive(Tree tree, int node) {
        if (!tree.isAlive(node)) {
            throw new NoSuchElementException("the node is not alive there");
        }
    }

    private void requireAdded(int node) {
        if (node < 0 || node >= nodeCount) {
            throw new NoSuchElementException("no such node");
        }
    }

    private static void requireNotRoot(int node) {
        if (node == ROOT) {
            throw new IllegalArgumentException("the node is the root");
        }
    }

    private static void requireScalar(int which) {
        if (which < 0 || which >= SCALARS) {
            throw new IllegalArgumentException("no such scalar");
        }
    }

    private void requirePlace(int parent, int name) {
        if (!isDirectory(parent)) {
            throw new IllegalArgumentException("parent is a file");
        }
        if (name < 0 || name >= NAMES) {
            throw new IllegalArgumentException("no such name");
        }
    }

    private static void requireKey(int key) {
        if (key < 0 || key >= KEYS) {
            throw new NoSuchElementException("no such key");
        }
    }

    private static void requireBranch(int branch) {
        if (branch < 0 || branch >= BRANCHES) {
            throw new NoSuchElementException("no such branch");
        }
    }

    private boolean isDirectory(int node) {
        return isIn(directories, node);
    }

    private static boolean isIn(long set, int member) {
        return (set >> member & 1L) != 0;
    }

    private static int slot(int node, int which) {
        return node * SCALARS + which;
    }

    /** One int for parent and name, so that all scalars are compared and merged alike. */
    private static int placeOf(int parent, int name) {
        return parent * NAMES + name;
    }

    private static int certificateKind(int key, int branch) {
        return key * BRANCHES + branch;
    }

    private long upTo(int r) {
        return older[r] | 1L << r;
    }

    private long withAncestors(long set) {
        long all = set;
        for (int r = 0; r < revisionCount; r++) {
            if (isIn(set, r)) {
                all |= older[r];
            }
        }
        return all;
    }

    private long latestOf(long set) {
        long latest = set;
        for (int r = 0; r < revisionCount; r++) {
            if (isIn(set, r)) {
                latest &= ~older[r];
            }
        }
        return latest;
    }

    /** The callers have made sure that there is room for one more revision. */
    private int makeRevision(Peer p, long ancestors, Tree tree) {
        int r = revisionCount;
        revisionCount++;
        older[r] = ancestors;
        trees[r].copyFrom(tree);
        p.held |= 1L << r;
        return r;
    }

    private void markChanges(int r, int base) {
        Tree before = trees[base];
        Tree after = trees[r];
        for (int node = 1; node < nodeCount; node++) {
            if (!after.isAlive(node)) {
                continue;
            }
            boolean isNew = !before.isAlive(node);
            if (isNew) {
                births[node] = r;
            }
            for (int which = 0; which < SCALARS; which++) {
                boolean chosen = isNew || after.valueOf(node, which) != before.valueOf(node, which);
                after.setMarks(node, which, chosen ? 1L << r : before.marksOf(node, which));
            }
        }
    }

    private void mergeTrees(Peer p, int a, int b) {
        merged.clear();
        undecided = 0;
        for (int node = 1; node < nodeCount; node++) {
            if (isIn(p.buried, node)) {
                continue;
            }
            boolean inA = trees[a].isAlive(node);
            boolean inB = trees[b].isAlive(node);
            if (inA && inB) {
                mergeNode(p, node, a, b);
            } else if (inA && !isIn(upTo(b), births[node])) {
                merged.copyNode(trees[a], node);
            } else if (inB && !isIn(upTo(a), births[node])) {
                merged.copyNode(trees[b], node);
            }
        }
    }

    private void mergeNode(Peer p, int node, int a, int b) {
        // A place in conflict stays NONE: no way to parents goes on from there, and no other
        // node has the same place.
        merged.plant(node, NONE);
        for (int which = 0; which < SCALARS; which++) {
            int own = ownSide(node, which, a, b);
            int decision = p.decisions[slot(node, which)];
            int side = decision == NONE ? own : decision;
            if (side == NONE) {
                undecided |= 1L << slot(node, which);
            } else {
                Tree chosen = side == SIDE_B ? trees[b] : trees[a];
                merged.setValue(node, which, chosen.valueOf(node, which));
                merged.setMarks(node, which, mergedMarks(node, which, a, b, own, side));
            }
        }
    }

    private long mergedMarks(int node, int which, int a, int b, int own, int side) {
        long marksInA = trees[a].marksOf(node, which);
        long marksInB = trees[b].marksOf(node, which);
        if (own == BOTH_SIDES) {
            return latestOf(marksInA | marksInB);
        }
        if (own != side) {
            return 1L << revisionCount;
        }
        return side == SIDE_B ? marksInB : marksInA;
    }

    /** The side whose value a scalar has by itself, NONE if that is a conflict. */
    private int ownSide(int node, int which, int a, int b) {
        if (trees[a].valueOf(node, which) == trees[b].valueOf(node, which)) {
            return BOTH_SIDES;
        }
        if ((trees[a].marksOf(node, which) & ~upTo(b)) == 0) {
            return SIDE_B;
        }
        if ((trees[b].marksOf(node, which) & ~upTo(a)) == 0) {
            return SIDE_A;
        }
        return NONE;
    }

    private void listConflicts(Peer p) {
        p.listed = 0;
        for (int node = 1; node < nodeCount; node++) {
            if (!merged.isAlive(node)) {
                continue;
            }
            for (int which = 0; which < SCALARS; which++) {
                if (isIn(undecided, slot(node, which))) {
                    p.list(node, which);
                }
            }
            if (!isIn(undecided, slot(node, PLACE))) {
                listPlaceConflict(p, node);
            }
        }
    }

    private void listPlaceConflict(Peer p, int node) {
        int parent = merged.parentOf(node);
        if (!merged.isAlive(parent)) {
            p.list(node, PARENT_MISSING);
        } else if (merged.lowestAt(merged.valueOf(node, PLACE)) != node) {
            p.list(node, PLACE_TAKEN);
        } else if (merged.leadsTo(parent, node)) {
            p.list(node, CIRCLE);
        }
    }

    /** The nodes alive, and for each node three scalars with their marks; the root's place is NONE. */
    private static final class Tree {
        int alive = 1;
        private final int[] values = new int[MOST_NODES * SCALARS];
        private final long[] marksOfValues = new long[MOST_NODES * SCALARS];

        Tree() {
            values[slot(ROOT, PLACE)] = NONE;
        }

        boolean isAlive(int node) {
            return node >= 0 && node < MOST_NODES && isIn(alive, node);
        }

        int valueOf(int node, int which) {
            return values[slot(node, which)];
        }

        void setValue(int node, int which, int value) {
            values[slot(node, which)] = value;
        }

        long marksOf(int node, int which) {
            return marksOfValues[slot(node, which)];
        }

        void setMarks(int node, int which, long marks) {
            marksOfValues[slot(node, which)] = marks;
        }

        int parentOf(int node) {
            int place = valueOf(node, PLACE);
            return place == NONE ? NONE : place / NAMES;
        }

        int nameOf(int node) {
            int place = valueOf(node, PLACE);
            return place == NONE ? NONE : place % NAMES;
        }

        /** The node with the lowest number that has a place, or NONE. */
        int lowestAt(int place) {
            for (int node = 1; node < MOST_NODES; node++) {
                if (isAlive(node) && valueOf(node, PLACE) == place) {
                    return node;
                }
            }
            return NONE;
        }

        boolean isParent(int directory) {
            for (int node = 1; node < MOST_NODES; node++) {
                if (isAlive(node) && parentOf(node) == directory) {
                    return true;
                }
            }
            return false;
        }

        /** Whether a node is another one, or comes to it by going to parents again and again. */
        boolean leadsTo(int from, int to) {
            int at = from;
            // A circle that the node to is not in would never end: no way is longer than all nodes.
            for (int steps = 0; steps < MOST_NODES && isAlive(at); steps++) {
                if (at == to) {
                    return true;
                }
                at = parentOf(at);
            }
            return false;
        }

        void plant(int node, int place) {
            alive |= 1 << node;
            setValue(node, PLACE, place);
            setValue(node, CONTENT, 0);
            setValue(node, ATTRIBUTE, 0);
        }

        void takeOut(int node) {
            alive &= ~(1 << node);
        }

        void clear() {
            alive = 1;
        }

        void copyNode(Tree from, int node) {
            alive |= 1 << node;
            for (int which = 0; which < SCALARS; which++) {
                setValue(node, which, from.valueOf(node, which));
                setMarks(node, which, from.marksOf(node, which));
            }
        }

        void copyFrom(Tree from) {
            alive = from.alive;
            System.arraycopy(from.values, 0, values, 0, values.length);
            System.arraycopy(from.marksOfValues, 0, marksOfValues, 0, marksOfValues.length);
        }

        /** Marks are no part of the question: a workspace has none of its own. */
        boolean sameAs(Tree other) {
            if (alive != other.alive) {
                return false;
            }
            for (int node = 1; node < MOST_NODES; node++) {
                for (int which = 0; which < SCALARS; which++) {
                    if (isAlive(node) && valueOf(node, which) != other.valueOf(node, which)) {
                        return false;
                    }
                }
            }
            return true;
        }
    }

    /** What one peer has, is working on, has decided and was told of conflicts. */
    private static final class Peer {
        long held = 1;
        final long[] certificates = new long[KEYS * BRANCHES];
        int trustedKeys = (1 << KEYS) - 1;

        final Tree workspace = new Tree();
        int base = NONE;

        final int[] decisions = new int[MOST_NODES * SCALARS];
        int buried;

        // No node has more than three conflicts: kinds 3 to 5 come alone and never beside kind 0.
        final int[] listedNodes = new int[MOST_NODES * SCALARS];
        final int[] listedKinds = new int[MOST_NODES * SCALARS];
        int listed;

        Peer() {
            Arrays.fill(decisions, NONE);
        }

        void forgetDecisions() {
            Arrays.fill(decisions, NONE);
            buried = 0;
        }

        void list(int node, int kind) {
            if (listed < listedNodes.length) {
                listedNodes[listed] = node;
                listedKinds[listed] = kind;
                listed++;
            }
        }

        boolean trusts(int key) {
            return isIn(trustedKeys, key);
        }

        long membersOf(int branch) {
            long members = 0;
            for (int key = 0; key < KEYS; key++) {
                if (trusts(key)) {
                    members |= certificates[certificateKind(key, branch)];
                }
            }
            return members;
        }

        /** Takes the revisions sent, with the sender's certificates for them: how many were lacking. */
        int receive(Peer sender, long sent) {
            int lacking = Long.bitCount(sent & ~held);
            held |= sent;
            for (int kind = 0; kind < certificates.length; kind++) {
                long certified = sender.certificates[kind] & sent;
                lacking += Long.bitCount(certified & ~certificates[kind]);
                certificates[kind] |= certified;
            }
            return lacking;
        }
    }
}
