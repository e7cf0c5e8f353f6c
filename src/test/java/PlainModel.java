import java.util.ArrayList;
import java.util.HashMap;
import java.util.HashSet;
import java.util.List;
import java.util.Map;
import java.util.NoSuchElementException;
import java.util.Set;
import java.util.TreeMap;
import java.util.TreeSet;

/**
 * The document once more, in sets and maps and with no thought of cost: what ModelTest compares
 * MarkedTrees with. It shares no way of holding or working anything out with that class.
 */
final class PlainModel {
    private record Place(int parent, int name) { }

    private record Certificate(int revision, int key, int branch) { }

    private record Scalar(int node, int which) { }

    private record Conflict(int node, int kind) { }

    private record Revision(List<Integer> parents, Map<Integer, Entry> tree) { }

    /** A node's scalars (a Place, an Integer and an Integer) and the marks of each. */
    private static final class Entry {
        final Object[] values = {new Place(-1, -1), 0, 0};
        final List<Set<Integer>> marks = new ArrayList<>(List.of(Set.of(), Set.of(), Set.of()));

        Entry copy() {
            Entry copy = new Entry();
            for (int which = 0; which < 3; which++) {
                copy.values[which] = values[which];
                copy.marks.set(which, marks.get(which));
            }
            return copy;
        }
    }

    private static final class Peer {
        final Set<Integer> has = new TreeSet<>(Set.of(0));
        final Set<Certificate> certificates = new HashSet<>();
        final Set<Integer> trusts = new TreeSet<>(Set.of(0, 1, 2, 3));
        final Map<Scalar, Integer> decided = new HashMap<>();
        final Set<Integer> buried = new TreeSet<>();
        List<Conflict> listed = List.of();
        Integer base = null;
        Map<Integer, Entry> workspace = null;
    }

    private final List<Revision> revisions = new ArrayList<>();
    private final List<Boolean> isDirectory = new ArrayList<>(List.of(true));
    private final Peer[] peers = {new Peer(), new Peer()};

    PlainModel() {
        revisions.add(new Revision(List.of(), new TreeMap<>(Map.of(0, new Entry()))));
    }

    private static void element(boolean holds) {
        if (!holds) {
            throw new NoSuchElementException();
        }
    }

    private static void argument(boolean holds) {
        if (!holds) {
            throw new IllegalArgumentException();
        }
    }

    private static void state(boolean holds) {
        if (!holds) {
            throw new IllegalStateException();
        }
    }

    private static boolean among(int i, int size) {
        return 0 <= i && i < size;
    }

    private Peer peer(int peer) {
        element(among(peer, 2));
        return peers[peer];
    }

    private Set<Integer> ancestorsOf(int r) {
        Set<Integer> all = new TreeSet<>();
        for (int parent : revisions.get(r).parents) {
            all.add(parent);
            all.addAll(ancestorsOf(parent));
        }
        return all;
    }

    private boolean isOrPrecedes(int r, int later) {
        return r == later || ancestorsOf(later).contains(r);
    }

    private int birth(int node) {
        int r = 0;
        while (!revisions.get(r).tree.containsKey(node)) {
            r++;
        }
        return r;
    }

    private static long bits(Set<Integer> set) {
        long bits = 0;
        for (int k : set) {
            bits += 1L << k;
        }
        return bits;
    }

    private static Map<Integer, Entry> copy(Map<Integer, Entry> tree) {
        Map<Integer, Entry> copy = new TreeMap<>();
        tree.forEach((node, entry) -> copy.put(node, entry.copy()));
        return copy;
    }

    private static boolean placeIsFree(Map<Integer, Entry> tree, Place place, int except) {
        return tree.entrySet().stream().noneMatch(e -> e.getKey() != except && place.equals(e.getValue().values[0]));
    }

    private Set<Integer> withoutAncestors(Set<Integer> set) {
        Set<Integer> left = new TreeSet<>();
        for (int r : set) {
            if (set.stream().noneMatch(other -> ancestorsOf(other).contains(r))) {
                left.add(r);
            }
        }
        return left;
    }

    void open(int peer, int r) {
        Peer p = peer(peer);
        element(p.has.contains(r));
        p.base = r;
        p.workspace = copy(revisions.get(r).tree);
    }

    int add(int peer, int parent, int name, boolean directory) {
        Peer p = peer(peer);
        state(p.workspace != null);
        element(p.workspace.containsKey(parent));
        argument(isDirectory.get(parent) && among(name, 10) && placeIsFree(p.workspace, new Place(parent, name), -1));
        state(isDirectory.size() < 16);
        Entry entry = new Entry();
        entry.values[0] = new Place(parent, name);
        p.workspace.put(isDirectory.size(), entry);
        isDirectory.add(directory);
        return isDirectory.size() - 1;
    }

    void drop(int peer, int node) {
        Peer p = peer(peer);
        state(p.workspace != null);
        element(p.workspace.containsKey(node));
        argument(node != 0);
        argument(p.workspace.values().stream().noneMatch(e -> ((Place) e.values[0]).parent == node));
        p.workspace.remove(node);
    }

    void move(int peer, int node, int parent, int name) {
        Peer p = peer(peer);
        state(p.workspace != null);
        element(p.workspace.containsKey(node) && p.workspace.containsKey(parent));
        argument(node != 0 && isDirectory.get(parent) && among(name, 10));
        argument(placeIsFree(p.workspace, new Place(parent, name), node));
        for (int at = parent; at != 0; at = ((Place) p.workspace.get(at).values[0]).parent) {
            argument(at != node);
        }
        p.workspace.get(node).values[0] = new Place(parent, name);
    }

    void write(int peer, int node, int which, int v) {
        Peer p = peer(peer);
        state(p.workspace != null);
        element(p.workspace.containsKey(node));
        argument((which == 1 || which == 2) && node != 0 && !(isDirectory.get(node) && which == 1));
        p.workspace.get(node).values[which] = v;
    }

    int commit(int peer) {
        Peer p = peer(peer);
        state(p.workspace != null);
        Map<Integer, Entry> before = revisions.get(p.base).tree;
        boolean same = before.keySet().equals(p.workspace.keySet());
        Map<Integer, Entry> after = copy(p.workspace);
        for (int node : after.keySet()) {
            for (int which = 0; which < 3; which++) {
                Entry old = before.get(node);
                if (old == null || !after.get(node).values[which].equals(old.values[which])) {
                    after.get(node).marks.set(which, Set.of(revisions.size()));
                    same = false;
                } else {
                    after.get(node).marks.set(which, old.marks.get(which));
                }
            }
        }
        state(!same && revisions.size() < 40);
        int r = revisions.size();
        revisions.add(new Revision(List.of(p.base), after));
        p.has.add(r);
        p.base = r;
        return r;
    }

    void decide(int peer, int node, int which, int side) {
        Peer p = peer(peer);
        element(among(node, isDirectory.size()));
        argument(among(which, 3) && among(side + 1, 3) && node != 0);
        p.decided.remove(new Scalar(node, which));
        if (side != -1) {
            p.decided.put(new Scalar(node, which), side);
        }
    }

    void bury(int peer, int node, boolean buried) {
        Peer p = peer(peer);
        element(among(node, isDirectory.size()));
        argument(node != 0);
        p.buried.remove(node);
        if (buried) {
            p.buried.add(node);
        }
    }

    int merge(int peer, int a, int b) {
        Peer p = peer(peer);
        element(p.has.contains(a) && p.has.contains(b));
        argument(!isOrPrecedes(a, b) && !isOrPrecedes(b, a));
        state(revisions.size() < 40);
        Map<Integer, Entry> inA = revisions.get(a).tree;
        Map<Integer, Entry> inB = revisions.get(b).tree;
        Map<Integer, Entry> tree = new TreeMap<>(Map.of(0, new Entry()));
        Set<Conflict> open = new HashSet<>();
        for (int node = 1; node < isDirectory.size(); node++) {
            if (p.buried.contains(node)) {
                continue;
            }
            if (inA.containsKey(node) && inB.containsKey(node)) {
                tree.put(node, new Entry());
                for (int which = 0; which < 3; which++) {
                    if (!mergeScalar(p, tree, node, which, a, b)) {
                        open.add(new Conflict(node, which));
                    }
                }
            } else if (inA.containsKey(node) && !isOrPrecedes(birth(node), b)) {
                tree.put(node, inA.get(node).copy());
            } else if (inB.containsKey(node) && !isOrPrecedes(birth(node), a)) {
                tree.put(node, inB.get(node).copy());
            }
        }
        p.listed = conflicts(tree, open);
        if (!p.listed.isEmpty()) {
            return -p.listed.size();
        }
        int r = revisions.size();
        revisions.add(new Revision(List.of(a, b), tree));
        p.has.add(r);
        p.decided.clear();
        p.buried.clear();
        return r;
    }

    private boolean mergeScalar(Peer p, Map<Integer, Entry> tree, int node, int which, int a, int b) {
        Entry inA = revisions.get(a).tree.get(node);
        Entry inB = revisions.get(b).tree.get(node);
        Object value = null;
        Set<Integer> marks = null;
        if (inA.values[which].equals(inB.values[which])) {
            Set<Integer> both = new TreeSet<>(inA.marks.get(which));
            both.addAll(inB.marks.get(which));
            value = inA.values[which];
            marks = withoutAncestors(both);
        } else if (inA.marks.get(which).stream().allMatch(mark -> isOrPrecedes(mark, b))) {
            value = inB.values[which];
            marks = inB.marks.get(which);
        } else if (inB.marks.get(which).stream().allMatch(mark -> isOrPrecedes(mark, a))) {
            value = inA.values[which];
            marks = inA.marks.get(which);
        }
        Integer side = p.decided.get(new Scalar(node, which));
        if (side != null) {
            Object decided = (side == 0 ? inA : inB).values[which];
            marks = decided.equals(value) ? marks : Set.of(revisions.size());
            value = decided;
        }
        if (value == null) {
            return false;
        }
        tree.get(node).values[which] = value;
        tree.get(node).marks.set(which, marks);
        return true;
    }

    private List<Conflict> conflicts(Map<Integer, Entry> tree, Set<Conflict> open) {
        List<Conflict> all = new ArrayList<>();
        for (int node : tree.keySet()) {
            for (int which = 0; which < 3; which++) {
                if (open.contains(new Conflict(node, which))) {
                    all.add(new Conflict(node, which));
                }
            }
            if (node == 0 || open.contains(new Conflict(node, 0))) {
                continue;
            }
            Place place = (Place) tree.get(node).values[0];
            boolean taken = tree.keySet().stream().anyMatch(other -> other != 0 && other < node
                && !open.contains(new Conflict(other, 0)) && place.equals(tree.get(other).values[0]));
            if (!tree.containsKey(place.parent)) {
                all.add(new Conflict(node, 3));
            } else if (taken) {
                all.add(new Conflict(node, 4));
            } else if (comesBack(tree, open, node)) {
                all.add(new Conflict(node, 5));
            }
        }
        return all;
    }

    private static boolean comesBack(Map<Integer, Entry> tree, Set<Conflict> open, int node) {
        Set<Integer> seen = new TreeSet<>();
        int at = node;
        while (seen.add(at)) {
            at = ((Place) tree.get(at).values[0]).parent;
            if (at == node) {
                return true;
            }
            if (at == 0 || !tree.containsKey(at) || open.contains(new Conflict(at, 0))) {
                return false;
            }
        }
        return false;
    }

    int conflict(int peer, int i, int what) {
        Peer p = peer(peer);
        argument(among(what, 2) && among(i, p.listed.size()));
        return what == 0 ? p.listed.get(i).node : p.listed.get(i).kind;
    }

    int about(int r, int node, int what) {
        element(among(r, revisions.size()) && revisions.get(r).tree.containsKey(node));
        argument(among(what, 6));
        Entry entry = revisions.get(r).tree.get(node);
        Place place = (Place) entry.values[0];
        int[] all = {place.parent, place.name, (Integer) entry.values[1], (Integer) entry.values[2],
            birth(node), isDirectory.get(node) ? 1 : 0};
        return all[what];
    }

    long marks(int r, int node, int which) {
        element(among(r, revisions.size()) && revisions.get(r).tree.containsKey(node));
        argument(among(which, 3) && node != 0);
        return bits(revisions.get(r).tree.get(node).marks.get(which));
    }

    long nodes(int peer, int r) {
        Peer p = peer(peer);
        if (r == -1) {
            return p.workspace == null ? 0 : bits(p.workspace.keySet());
        }
        element(p.has.contains(r));
        return bits(revisions.get(r).tree.keySet());
    }

    long ancestors(int r) {
        element(among(r, revisions.size()));
        return bits(ancestorsOf(r));
    }

    boolean certify(int peer, int r, int key, int branch) {
        Peer p = peer(peer);
        element(p.has.contains(r) && among(key, 4) && among(branch, 3));
        return p.certificates.add(new Certificate(r, key, branch));
    }

    boolean trust(int peer, int key, boolean trusted) {
        Peer p = peer(peer);
        element(among(key, 4));
        boolean before = p.trusts.contains(key);
        if (trusted) {
            p.trusts.add(key);
        } else {
            p.trusts.remove(key);
        }
        return before;
    }

    private static Set<Integer> members(Peer p, int branch) {
        Set<Integer> members = new TreeSet<>();
        for (Certificate c : p.certificates) {
            if (c.branch == branch && p.trusts.contains(c.key)) {
                members.add(c.revision);
            }
        }
        return members;
    }

    long heads(int peer, int branch) {
        Peer p = peer(peer);
        element(among(branch, 3));
        return bits(withoutAncestors(members(p, branch)));
    }

    int exchange(int branch) {
        element(among(branch, 3));
        List<Set<Integer>> sent = new ArrayList<>();
        List<List<Certificate>> sentCertificates = new ArrayList<>();
        for (Peer p : peers) {
            Set<Integer> all = members(p, branch);
            for (int member : members(p, branch)) {
                all.addAll(ancestorsOf(member));
            }
            sent.add(all);
            sentCertificates.add(p.certificates.stream().filter(c -> all.contains(c.revision)).toList());
        }
        int lacked = 0;
        for (int receiver = 0; receiver < 2; receiver++) {
            for (int r : sent.get(1 - receiver)) {
                lacked += peers[receiver].has.add(r) ? 1 : 0;
            }
            for (Certificate c : sentCertificates.get(1 - receiver)) {
                lacked += peers[receiver].certificates.add(c) ? 1 : 0;
            }
        }
        return lacked;
    }

    long has(int peer) {
        return bits(peer(peer).has);
    }

    /** The document's "Each revision has a good tree", which no rule of merges says in so many words. */
    boolean everyTreeIsGood() {
        return revisions.stream().allMatch(revision -> isGood(revision.tree));
    }

    private boolean isGood(Map<Integer, Entry> tree) {
        Set<Place> places = new HashSet<>();
        for (int node : tree.keySet()) {
            if (!places.add((Place) tree.get(node).values[0]) || !comesToTheRoot(tree, node)) {
                return false;
            }
        }
        return tree.containsKey(0);
    }

    private boolean comesToTheRoot(Map<Integer, Entry> tree, int node) {
        Set<Integer> seen = new TreeSet<>();
        int at = node;
        while (at != 0 && seen.add(at)) {
            at = ((Place) tree.get(at).values[0]).parent;
            if (!tree.containsKey(at) || !isDirectory.get(at)) {
                return false;
            }
        }
        return at == 0;
    }
}
