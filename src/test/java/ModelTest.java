import java.util.Random;
import java.util.function.LongSupplier;

/** Runs of drawn calls, each of at most 512, answered by MarkedTrees as by the plain model. */
public final class ModelTest {
    private static final int RUNS = 8000;
    private static final int CALLS = 512;

    private static final int[] CONFLICTS_BY_KIND = new int[6];
    private static int mergesMade = 0;
    private static int runsToTheLimit = 0;

    private final Checks checks;
    private final Random random;
    private final String run;
    private final MarkedTrees tested = new MarkedTrees();
    private final PlainModel model = new PlainModel();
    private int revisions = 1;
    private int nodes = 1;
    private int calls = 0;
    private boolean asDue = true;

    private ModelTest(Checks checks, int seed) {
        this.checks = checks;
        this.random = new Random(seed);
        this.run = "run " + seed + ": ";
    }

    public static void main(String[] args) {
        Checks checks = new Checks("ModelTest");
        for (int seed = 0; seed < RUNS; seed++) {
            ModelTest test = new ModelTest(checks, seed);
            test.begin(seed % 12);
            int work = 40 + seed % 5 * 10;
            while (test.calls < CALLS && test.asDue) {
                if (test.random.nextInt(100) < work) {
                    test.work();
                } else {
                    test.gatherOrRead();
                }
            }
            checks.due(test.run + "every revision has a good tree", test.model.everyTreeIsGood(), true);
            runsToTheLimit += test.revisions == 40 && test.nodes == 16 ? 1 : 0;
        }
        // Runs that seldom come to what is hard would compare little.
        checks.due("enough merges", mergesMade > 10000, true);
        checks.due("enough runs to the limit", runsToTheLimit > 10, true);
        for (int kind = 0; kind < 6; kind++) {
            checks.due("enough conflicts of kind " + kind, CONFLICTS_BY_KIND[kind] > 300, true);
        }
        checks.end();
    }

    private static String outcome(LongSupplier call) {
        try {
            return Long.toString(call.getAsLong());
        } catch (RuntimeException e) {
            return e.getClass().getName();
        }
    }

    private String compare(String call, LongSupplier got, LongSupplier want) {
        calls++;
        String answer = outcome(got);
        String due = outcome(want);
        checks.due(run + call, answer, due);
        // What follows a wrong answer tells nothing more.
        asDue &= answer.equals(due);
        return answer;
    }

    /** Mostly one of 0 .. below - 1, at times just outside or far off. */
    private int draw(int below) {
        int dice = random.nextInt(200);
        if (dice == 0) {
            return -1;
        }
        if (dice == 1) {
            return below;
        }
        return dice == 2 ? random.nextInt() : random.nextInt(below);
    }

    /** Mostly a revision that the peer has, and rather a late one. */
    private int drawRevision(int peer) {
        if (random.nextInt(30) == 0 || peer != 0 && peer != 1) {
            return draw(revisions);
        }
        int r = revisions - 1;
        while (r > 0 && ((model.has(peer) >> r & 1) == 0 || random.nextInt(4) != 0)) {
            r--;
        }
        return r;
    }

    /** Few values, so that both sides of a merge often choose the same one. */
    private int drawValue() {
        return random.nextInt(30) == 0 ? random.nextInt() : random.nextInt(3);
    }

    /** Both peers open a revision with some nodes, so that much of their work is on the same ones. */
    private void begin(int planted) {
        openCall(0, 0);
        for (int node = 1; node <= planted; node++) {
            addCall(0, random.nextInt(2) * random.nextInt(node), random.nextInt(10), random.nextBoolean());
        }
        commitCall(0);
        certifyCall(0, 1, 0, 0);
        exchangeCall(0);
        openCall(0, 1);
        openCall(1, 1);
    }

    private void openCall(int p, int r) {
        compare("open " + p + " " + r,
            () -> { tested.open(p, r); return 0; }, () -> { model.open(p, r); return 0; });
    }

    private void addCall(int p, int parent, int name, boolean directory) {
        nodes += isNumber(compare("add " + p + " " + parent + " " + name + " " + directory,
            () -> tested.add(p, parent, name, directory), () -> model.add(p, parent, name, directory)));
    }

    private void commitCall(int p) {
        revisions += isNumber(compare("commit " + p, () -> tested.commit(p), () -> model.commit(p)));
    }

    private void certifyCall(int p, int r, int key, int branch) {
        compare("certify " + p + " " + r + " " + key + " " + branch,
            () -> tested.certify(p, r, key, branch) ? 1 : 0, () -> model.certify(p, r, key, branch) ? 1 : 0);
    }

    private void exchangeCall(int branch) {
        compare("exchange " + branch, () -> tested.exchange(branch), () -> model.exchange(branch));
    }

    private void work() {
        int p = draw(2);
        int node = draw(nodes);
        int parent = draw(nodes);
        int name = random.nextInt(20) == 0 ? draw(10) : random.nextInt(4);
        int r = drawRevision(p);
        switch (random.nextInt(16)) {
            case 0 -> openCall(p, r);
            case 1 -> addCall(p, parent, name, random.nextBoolean());
            case 2 -> compare("drop " + p + " " + node,
                () -> { tested.drop(p, node); return 0; }, () -> { model.drop(p, node); return 0; });
            case 3, 4, 5, 6, 7 -> compare("move " + p + " " + node + " " + parent + " " + name,
                () -> { tested.move(p, node, parent, name); return 0; },
                () -> { model.move(p, node, parent, name); return 0; });
            case 8, 9, 10, 11 -> writeCall(p, node);
            default -> commitCall(p);
        }
    }

    private void writeCall(int p, int node) {
        int which = random.nextInt(8) == 0 ? draw(4) : 1 + random.nextInt(2);
        int v = drawValue();
        compare("write " + p + " " + node + " " + which + " " + v,
            () -> { tested.write(p, node, which, v); return 0; },
            () -> { model.write(p, node, which, v); return 0; });
    }

    private static int isNumber(String answer) {
        return answer.matches("[1-9][0-9]*") ? 1 : 0;
    }

    private void gatherOrRead() {
        switch (random.nextInt(4)) {
            case 0 -> mergeCall();
            case 1 -> branchCall();
            default -> readCall();
        }
    }

    private void mergeCall() {
        int p = draw(2);
        int node = draw(nodes);
        int which = draw(3);
        int side = draw(2);
        int a = drawRevision(p);
        int b = drawRevision(p);
        switch (random.nextInt(7)) {
            case 0 -> decideCall(p, node, which, side);
            case 1 -> buryCall(p, node, random.nextInt(3) == 0);
            default -> {
                String answer = compare("merge " + p + " " + a + " " + b,
                    () -> tested.merge(p, a, b), () -> model.merge(p, a, b));
                revisions += isNumber(answer);
                mergesMade += isNumber(answer);
                settle(p, answer.startsWith("-") && asDue ? -Integer.parseInt(answer) : 0);
            }
        }
    }

    /** Reads the conflicts of a merge and decides or buries most of them, as a user would. */
    private void settle(int p, int count) {
        for (int i = 0; i < count && calls < CALLS - 2 && asDue; i++) {
            int at = i;
            compare("conflict " + p + " " + i + " 0", () -> tested.conflict(p, at, 0), () -> model.conflict(p, at, 0));
            compare("conflict " + p + " " + i + " 1", () -> tested.conflict(p, at, 1), () -> model.conflict(p, at, 1));
            int node = model.conflict(p, i, 0);
            int kind = model.conflict(p, i, 1);
            CONFLICTS_BY_KIND[kind]++;
            if (random.nextInt(4) != 0) {
                settleOne(p, node, kind);
            }
        }
    }

    private void settleOne(int p, int node, int kind) {
        if (kind <= 2 || random.nextBoolean()) {
            decideCall(p, node, kind <= 2 ? kind : 0, random.nextInt(2));
        } else {
            buryCall(p, node, true);
        }
    }

    private void decideCall(int p, int node, int which, int side) {
        compare("decide " + p + " " + node + " " + which + " " + side,
            () -> { tested.decide(p, node, which, side); return 0; },
            () -> { model.decide(p, node, which, side); return 0; });
    }

    private void buryCall(int p, int node, boolean buried) {
        compare("bury " + p + " " + node + " " + buried,
            () -> { tested.bury(p, node, buried); return 0; },
            () -> { model.bury(p, node, buried); return 0; });
    }

    private void branchCall() {
        int p = draw(2);
        int r = drawRevision(p);
        int key = draw(4);
        int branch = draw(3);
        boolean flag = random.nextInt(4) != 0;
        switch (random.nextInt(6)) {
            case 0, 1 -> certifyCall(p, r, key, branch);
            case 2 -> compare("trust " + p + " " + key + " " + flag,
                () -> tested.trust(p, key, flag) ? 1 : 0, () -> model.trust(p, key, flag) ? 1 : 0);
            case 3 -> compare("heads " + p + " " + branch,
                () -> tested.heads(p, branch), () -> model.heads(p, branch));
            case 4 -> exchangeCall(branch);
            default -> compare("has " + p, () -> tested.has(p), () -> model.has(p));
        }
    }

    private void readCall() {
        int p = draw(2);
        int r = drawRevision(p);
        int node = draw(nodes);
        int what = draw(6);
        int which = draw(3);
        switch (random.nextInt(6)) {
            case 0 -> compare("about " + r + " " + node + " " + what,
                () -> tested.about(r, node, what), () -> model.about(r, node, what));
            case 1, 2 -> compare("marks " + r + " " + node + " " + which,
                () -> tested.marks(r, node, which), () -> model.marks(r, node, which));
            case 3 -> compare("nodes " + p + " " + r, () -> tested.nodes(p, r), () -> model.nodes(p, r));
            case 4 -> compare("nodes " + p + " -1", () -> tested.nodes(p, -1), () -> model.nodes(p, -1));
            default -> compare("ancestors " + r, () -> tested.ancestors(r), () -> model.ancestors(r));
        }
    }
}
