import java.util.ArrayList;
import java.util.HashMap;
import java.util.List;
import java.util.Map;

/**
 * Every call that the document refuses: the exception that it asks for, and that the object answers
 * afterwards, whatever it is asked, as if the call had not been made ("Such a call changes nothing,
 * and uses no numbers").
 */
public final class RefusedTest {
    private static final String NO_ELEMENT = "throws.NoSuchElementException";
    private static final String BAD_ARGUMENT = "throws.IllegalArgumentException";
    private static final String BAD_STATE = "throws.IllegalStateException";

    /**
     * Something of all that an object can hold. Peer 0 has revisions 0 to 3 and peer 1 has 4 too.
     * Nodes 1, 2 and 5 are directories (5 in 2), 3, 4, 6 and 7 files; 8, a directory, and 9, dropped
     * again, are in no revision. Peer 0's workspace is on 3, has 0 1 2 3 5 8 and 5 in 8 in 1; peer 1's
     * is on 4 and has 0 to 7. Both have decided, buried and been told of conflicts.
     */
    private static final String WORLD = "open 0 0; add 0 0 0 true = 1; add 0 0 1 true = 2; add 0 1 0 false = 3;"
        + "add 0 0 2 false = 4; add 0 2 0 true = 5; write 0 3 1 7; write 0 4 2 -7; commit 0 = 1;"
        + "move 0 3 2 3; write 0 3 1 8; write 0 4 1 8; write 0 1 2 8; write 0 4 2 8; commit 0 = 2;"
        + "open 0 1; move 0 3 2 4; write 0 3 1 9; write 0 4 1 9; write 0 1 2 9; write 0 4 2 9; commit 0 = 3;"
        + "certify 0 2 0 0; certify 0 3 1 0; certify 0 1 3 2; exchange 0 = 6;"
        + "trust 0 2 false; trust 1 3 false; certify 1 2 2 1; certify 0 0 0 1;"
        + "open 1 2; add 1 0 5 false = 6; commit 1 = 4; write 1 6 1 5; add 1 5 0 false = 7;"
        + "open 0 3; add 0 1 7 true = 8; move 0 5 8 1; write 0 5 2 3; add 0 0 9 false = 9; drop 0 9; drop 0 4;"
        + "decide 0 3 0 1; decide 0 3 1 0; decide 0 4 2 1; bury 0 5 true; decide 1 3 1 1; bury 1 4 true;"
        + "merge 0 2 3 = -2; merge 1 3 2 = -2";

    /** As before, but peer 1 has no workspace, and nodes 6 and 7 are in no tree. */
    private static final String ONE_WORKSPACE = WORLD.replace(
        "open 1 2; add 1 0 5 false = 6; commit 1 = 4; write 1 6 1 5; add 1 5 0 false = 7;",
        "add 0 0 8 false = 6; add 0 0 9 false = 7;");

    private static final String ALL_NODES = WORLD + ";" + Edges.each(2, 7, "add 0 8 # false");

    private static final String ALL_REVISIONS = WORLD + ";" + Edges.each(5, 39, "write 0 5 2 #; commit 0 = #")
        + ";write 0 5 2 77";

    private static final Checks CHECKS = new Checks("RefusedTest");
    private static final List<Probes.Probe> PROBES = Probes.all();
    private static final Map<String, List<String>> UNDISTURBED = new HashMap<>();

    private static String sentence = "";

    public static void main(String[] args) {
        peers();
        revisions();
        nodesNotAlive();
        nodesNotAdded();
        keys();
        branches();
        places();
        drops();
        moves();
        writes();
        commits();
        decisionsAndBurials();
        merges();
        conflicts();
        readings();
        withoutWorkspace();
        allNodes();
        allRevisions();
        CHECKS.end();
    }

    private static void sentence(String where, String words) {
        sentence = where + ", \"" + words + "\"";
    }

    private static Script after(String world) {
        Script script = new Script();
        for (String row : world.split(";")) {
            String[] parts = row.split(" = ");
            String answer = script.answer(parts[0]);
            if (parts.length > 1 ? !answer.equals(parts[1].trim()) : answer.startsWith("throws.")) {
                throw new AssertionError("the run before is not as thought: " + row + " answered " + answer);
            }
        }
        return script;
    }

    private static List<String> undisturbed(String world) {
        if (!UNDISTURBED.containsKey(world)) {
            List<String> answers = new ArrayList<>();
            for (Probes.Probe probe : PROBES) {
                answers.add(Probes.answers(after(world), probe));
            }
            UNDISTURBED.put(world, answers);
        }
        return UNDISTURBED.get(world);
    }

    /** Each of the calls, with ; between them, after the same run of calls. */
    private static void refused(String world, String calls, String exception) {
        for (String call : calls.split(";")) {
            refusedAlone(world, call.trim(), exception);
        }
    }

    private static void refusedAlone(String world, String call, String exception) {
        List<String> due = undisturbed(world);
        for (int i = 0; i < PROBES.size(); i++) {
            Script script = after(world);
            CHECKS.due(sentence + ", " + call, script.answer(call), exception);
            String got = Probes.answers(script, PROBES.get(i));
            CHECKS.due(sentence + ", after " + call, firstOther(got, due.get(i)), "as if not made");
        }
    }

    private static String firstOther(String got, String due) {
        String[] rows = got.split("\n");
        String[] dueRows = due.split("\n");
        for (int i = 0; i < rows.length; i++) {
            if (i >= dueRows.length || !rows[i].equals(dueRows[i])) {
                return rows[i];
            }
        }
        return "as if not made";
    }

    /** Calls with each number that is not first to last in the place of #: near, far, and far round. */
    private static void refusedOutside(String world, int first, int last, String calls, String exception) {
        int[] numbers = {first - 1, last + 1, last + 2, -10, -32, -64, 16, 32, 33, 40, 47, 48, 64, 65, 128,
            256, 1 << 16, 1 << 30, Integer.MIN_VALUE, Integer.MIN_VALUE + 1, Integer.MAX_VALUE};
        for (int number : numbers) {
            if (number < first || number > last) {
                refused(world, calls.replace("#", "" + number), exception);
            }
        }
    }

    private static void peers() {
        sentence("Terms", "there is no such peer");
        refusedOutside(WORLD, 0, 1, "open # 0; add # 0 5 true; drop # 3; move # 3 0 5; write # 3 1 5; commit #;"
            + "decide # 3 1 1; bury # 3 true; merge # 2 3; conflict # 0 0; nodes # 0; nodes # -1;"
            + "certify # 1 0 0; trust # 0 false; heads # 0; has #", NO_ELEMENT);
        String withOtherReasons = "open 2 9; add 2 99 99 true; drop -1 0; move -1 0 99 99; write 2 0 9 5;"
            + "decide 2 0 9 9; bury 2 0 true; merge 2 2 2; conflict 2 9 9; nodes 2 9; certify 2 9 9 9;"
            + "trust 2 9 true; heads 2 9";
        refused(WORLD, withOtherReasons, NO_ELEMENT);
        refused(ONE_WORKSPACE, withOtherReasons, NO_ELEMENT);
    }

    private static void revisions() {
        sentence("Terms", "revision (or the peer does not have it)");
        refusedOutside(WORLD, 0, 4, "open 1 #; merge 1 # 3; merge 1 2 #; certify 1 # 0 0; about # 0 0; marks # 1 0;"
            + "ancestors #", NO_ELEMENT);
        refusedOutside(WORLD, -1, 4, "nodes 1 #", NO_ELEMENT);
        refused(WORLD, "open 0 4; merge 0 4 3; merge 0 3 4; merge 0 4 4; certify 0 4 0 0; nodes 0 4", NO_ELEMENT);
        // Ahead of what the document names behind it.
        refused(WORLD, "merge 1 5 5; merge 0 5 1; about 5 0 9; about 5 99 0; marks 5 0 9; certify 1 5 9 9", NO_ELEMENT);
    }

    private static void nodesNotAlive() {
        sentence("Terms", "node (it is not alive in the tree meant)");
        refusedOutside(WORLD, 0, 7, "add 1 # 9 true; drop 1 #; move 1 # 0 9; move 1 3 # 9; write 1 # 2 5", NO_ELEMENT);
        refusedOutside(WORLD, 0, 5, "about 1 # 0; marks 1 # 0", NO_ELEMENT);
        // Dropped, in the other peer's workspace alone, or added and never committed.
        for (String node : new String[] {"4", "6", "7", "9"}) {
            String calls = "add 0 # 9 true; drop 0 #; move 0 # 0 9; move 0 3 # 9; write 0 # 2 5";
            refused(WORLD, calls.replace("#", node), NO_ELEMENT);
        }
        refused(WORLD, "about 3 6 0; about 4 7 4; about 4 8 0; marks 3 6 0; marks 4 7 1; marks 0 1 0", NO_ELEMENT);
        sentence("Promises 3 and 5", "NoSuchElementException also if parent is not alive there.");
        refused(WORLD, "add 0 4 99 true; move 0 0 4 0; move 0 3 4 99; move 0 4 4 99; move 0 4 3 0; drop 0 4;"
            + "write 0 4 0 5; about 1 6 9; marks 1 6 9", NO_ELEMENT);
    }

    private static void nodesNotAdded() {
        sentence("Promise 8", "The node need not be alive anywhere, but it must have been added.");
        refusedOutside(WORLD, 0, 9, "decide 0 # 1 0", NO_ELEMENT);
        refused(WORLD, "decide 0 10 1 -1", NO_ELEMENT);
        refused(WORLD, "decide 0 10 3 2", NO_ELEMENT);
        sentence("Promise 9", "As with decide().");
        refusedOutside(WORLD, 0, 9, "bury 0 # true", NO_ELEMENT);
        refusedOutside(WORLD, 0, 9, "bury 1 # false", NO_ELEMENT);
    }

    private static void keys() {
        sentence("Terms", "KEYS are 0 .. 3");
        refusedOutside(WORLD, 0, 3, "certify 0 1 # 0; certify 0 3 # 2; certify 1 4 # 1; trust 0 # true;"
            + "trust 1 # false", NO_ELEMENT);
    }

    private static void branches() {
        sentence("Terms", "BRANCHES 0 .. 2");
        refusedOutside(WORLD, 0, 2, "certify 0 1 0 #; certify 0 1 1 #; certify 1 4 3 #; heads 0 #; exchange #", NO_ELEMENT);
    }

    private static void places() {
        sentence("Promise 3", "IllegalArgumentException: parent is a file");
        refused(WORLD, "add 0 3 0 true", BAD_ARGUMENT);
        refused(WORLD, "add 1 7 9 false", BAD_ARGUMENT);
        sentence("Promise 3", "name is not 0 .. 9");
        refusedOutside(WORLD, 0, 9, "add 0 8 # true", BAD_ARGUMENT);
        refusedOutside(WORLD, 0, 9, "add 1 0 # false", BAD_ARGUMENT);
        sentence("Promise 3", "or a node has that place");
        refused(WORLD, "add 0 0 0 true; add 0 0 1 false; add 0 1 7 false; add 0 8 1 false; add 0 2 4 true;"
            + "add 1 5 0 false; add 1 0 5 true", BAD_ARGUMENT);
    }

    private static void drops() {
        sentence("Promise 4", "IllegalArgumentException: it is the root");
        refused(WORLD, "drop 0 0", BAD_ARGUMENT);
        refused("open 1 0", "drop 1 0", BAD_ARGUMENT);
        sentence("Promise 4", "or a directory with a node in it");
        refused(WORLD, "drop 0 1; drop 0 2; drop 0 8; drop 1 2; drop 1 5", BAD_ARGUMENT);
    }

    private static void moves() {
        sentence("Promise 5", "IllegalArgumentException: it is the root");
        refused(WORLD, "move 0 0 1 9", BAD_ARGUMENT);
        refused(WORLD, "move 0 0 0 9", BAD_ARGUMENT);
        sentence("Promise 5", "parent is a file");
        refused(WORLD, "move 0 5 3 0", BAD_ARGUMENT);
        refused(WORLD, "move 0 3 3 0", BAD_ARGUMENT);
        sentence("Promise 5", "name is not 0 .. 9");
        refusedOutside(WORLD, 0, 9, "move 0 3 8 #", BAD_ARGUMENT);
        refusedOutside(WORLD, 0, 9, "move 1 5 0 #", BAD_ARGUMENT);
        sentence("Promise 5", "another node has that place");
        refused(WORLD, "move 0 3 0 0; move 0 3 8 1; move 0 5 2 4; move 1 7 2 0; move 1 1 0 5", BAD_ARGUMENT);
        sentence("Promise 5", "or parent is the node or lies in it at any depth");
        refused(WORLD, "move 0 1 1 0; move 0 1 8 0; move 0 1 5 0; move 0 8 5 9; move 0 5 5 9; move 1 2 5 9", BAD_ARGUMENT);
    }

    private static void writes() {
        sentence("Promise 6", "IllegalArgumentException: which is neither");
        refusedOutside(WORLD, 1, 2, "write 0 3 # 77", BAD_ARGUMENT);
        refusedOutside(WORLD, 1, 2, "write 1 1 # 77", BAD_ARGUMENT);
        sentence("Promise 6", "the node is the root");
        refused(WORLD, "write 0 0 1 77", BAD_ARGUMENT);
        refused(WORLD, "write 0 0 2 77", BAD_ARGUMENT);
        refused(WORLD, "write 0 0 0 77", BAD_ARGUMENT);
        sentence("Promise 6", "or it is a directory and which is 1");
        refused(WORLD, "write 0 1 1 77; write 0 8 1 0; write 1 5 1 77", BAD_ARGUMENT);
    }

    private static void commits() {
        sentence("Promise 7", "its tree is that of the base");
        refused(WORLD + ";open 0 2", "commit 0", BAD_STATE);
        refused(WORLD + ";commit 0 = 5", "commit 0", BAD_STATE);
        refused(WORLD + ";drop 1 7; write 1 6 1 0", "commit 1", BAD_STATE);
    }

    private static void decisionsAndBurials() {
        sentence("Promise 8", "IllegalArgumentException: which or side is none of these");
        refusedOutside(WORLD, 0, 2, "decide 0 1 # 1", BAD_ARGUMENT);
        refusedOutside(WORLD, 0, 2, "decide 0 3 # -1", BAD_ARGUMENT);
        refusedOutside(WORLD, -1, 1, "decide 0 1 2 #", BAD_ARGUMENT);
        refusedOutside(WORLD, -1, 1, "decide 0 3 1 #", BAD_ARGUMENT);
        sentence("Promise 8", "or the node is the root");
        refused(WORLD, "decide 0 0 0 0; decide 0 0 2 -1; decide 1 0 1 1; decide 0 0 9 9", BAD_ARGUMENT);
        sentence("Promise 9", "IllegalArgumentException: the node is the root.");
        refused(WORLD, "bury 0 0 true", BAD_ARGUMENT);
        refused(WORLD, "bury 1 0 false", BAD_ARGUMENT);
    }

    private static void merges() {
        sentence("Promise 10", "IllegalArgumentException: a is b");
        refused(WORLD, "merge 0 0 0; merge 0 3 3; merge 1 4 4", BAD_ARGUMENT);
        sentence("Promise 10", "or one is an ancestor of the other");
        refused(WORLD, "merge 0 0 3; merge 0 3 0; merge 0 1 2; merge 0 2 1; merge 1 2 4; merge 1 4 2;"
            + "merge 1 4 0", BAD_ARGUMENT);
    }

    private static void conflicts() {
        sentence("Promise 11", "IllegalArgumentException if what is neither");
        refusedOutside(WORLD, 0, 1, "conflict 0 1 #", BAD_ARGUMENT);
        sentence("Promise 11", "or there is no such one");
        refusedOutside(WORLD, 0, 1, "conflict 0 # 0", BAD_ARGUMENT);
        refusedOutside(WORLD, 0, 1, "conflict 1 # 1", BAD_ARGUMENT);
        refused("open 0 0", "conflict 0 0 0", BAD_ARGUMENT);
        refused(WORLD + ";decide 0 1 2 0; decide 0 4 1 0; merge 0 2 3 = 5", "conflict 0 0 0", BAD_ARGUMENT);
    }

    private static void readings() {
        sentence("Promise 12", "IllegalArgumentException if what is none of these.");
        refusedOutside(WORLD, 0, 5, "about 2 3 #", BAD_ARGUMENT);
        refusedOutside(WORLD, 0, 5, "about 0 0 #", BAD_ARGUMENT);
        sentence("Promise 13", "IllegalArgumentException if which is not 0 .. 2");
        refusedOutside(WORLD, 0, 2, "marks 2 3 #", BAD_ARGUMENT);
        sentence("Promise 13", "or the node is the root");
        refused(WORLD, "marks 0 0 0; marks 4 0 2; marks 2 0 9", BAD_ARGUMENT);
    }

    private static void withoutWorkspace() {
        sentence("Promises 3 to 6", "IllegalStateException: the peer has no workspace (looked at ahead of all but the peer).");
        refused(ONE_WORKSPACE, "add 1 0 9 true; add 1 9 0 true; add 1 3 0 true; add 1 0 10 true; add 1 -1 -1 true;"
            + "drop 1 3; drop 1 0; drop 1 1; drop 1 99; move 1 3 0 9; move 1 0 0 9;"
            + "move 1 99 99 99; move 1 1 3 10; write 1 3 1 5; write 1 0 1 5; write 1 99 99 5;"
            + "write 1 1 1 5", BAD_STATE);
        sentence("Promise 7", "IllegalStateException: the peer has no workspace");
        refused(ONE_WORKSPACE, "commit 1", BAD_STATE);
    }

    private static void allNodes() {
        sentence("Promise 3", "or there are 16 nodes");
        refused(ALL_NODES, "add 0 8 9 true", BAD_STATE);
        refused(ALL_NODES, "add 1 0 9 false", BAD_STATE);
        refused(ALL_NODES + ";drop 0 15", "add 0 8 7 false", BAD_STATE);
        sentence("Terms", "a call ends by the first of these that holds");
        refused(ALL_NODES, "add 0 16 0 true", NO_ELEMENT);
        refused(ALL_NODES, "add 0 4 0 true", NO_ELEMENT);
        refused(ALL_NODES, "add 0 3 0 true", BAD_ARGUMENT);
        refused(ALL_NODES, "add 0 8 10 true", BAD_ARGUMENT);
        refused(ALL_NODES, "add 0 8 7 true", BAD_ARGUMENT);
    }

    private static void allRevisions() {
        sentence("Promise 7", "or there are 40 revisions");
        refused(ALL_REVISIONS, "commit 0", BAD_STATE);
        refused(ALL_REVISIONS, "commit 1", BAD_STATE);
        sentence("Promise 10", "IllegalStateException: there are 40 revisions.");
        refused(ALL_REVISIONS, "merge 0 2 3; merge 0 39 2; merge 1 3 4", BAD_STATE);
        sentence("Terms", "a call ends by the first of these that holds");
        refused(ALL_REVISIONS, "merge 0 40 40; merge 0 4 3; merge 1 39 2; merge 1 39 39", NO_ELEMENT);
        refused(ALL_REVISIONS, "merge 0 39 39; merge 0 39 5; merge 0 0 39", BAD_ARGUMENT);
    }
}
