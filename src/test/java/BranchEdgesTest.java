/** Boundary cases that promises 16 to 20 and the Terms of certificates name. */
public final class BranchEdgesTest {
    private static final Edges EDGES = new Edges("BranchEdgesTest");

    /** Revision 1, and on it 2 and 3, of peer 0 alone. */
    private static final String FORKED = "open 0 0; add 0 0 0 false; commit 0; write 0 1 1 2; commit 0 = 2;"
        + "open 0 1; write 0 1 2 3; commit 0 = 3";

    private static final String LONGEST = "open 0 0; add 0 0 0 false;"
        + Edges.each(1, 39, "write 0 1 2 #; commit 0 = #");

    public static void main(String[] args) {
        keysAndBranches();
        noneAtFirst();
        allTrustedAtFirst();
        members();
        certify();
        certifyHad();
        trust();
        heads();
        exchangeMembersAndAncestors();
        exchangeCertificates();
        exchangeWorkedOutFirst();
        exchangeWhatWasLacking();
        exchangeAnswer();
        has();
        EDGES.end();
    }

    private static void keysAndBranches() {
        EDGES.sentence("Terms", "KEYS are 0 .. 3, BRANCHES 0 .. 2.");
        EDGES.run("certify 0 0 0 0 = true; certify 0 0 3 2 = true; certify 0 0 4 0 = throws.NoSuchElement",
            "certify 0 0 -1 0 = throws.NoSuchElement; certify 0 0 0 3 = throws.NoSuchElement",
            "certify 0 0 0 -1 = throws.NoSuchElement; certify 0 0 1 -1 = throws.NoSuchElement",
            "certify 0 0 min 0 = throws.NoSuchElement; certify 0 0 0 max = throws.NoSuchElement",
            "trust 0 4 false = throws.NoSuchElement; trust 0 -1 false = throws.NoSuchElement",
            "trust 0 32 false = throws.NoSuchElement; trust 0 0 true = true; trust 0 3 true = true",
            "heads 0 3 = throws.NoSuchElement; heads 0 -1 = throws.NoSuchElement; heads 0 0 = {0}; heads 0 2 = {0}",
            "heads 0 1 = {}; exchange 3 = throws.NoSuchElement; exchange -1 = throws.NoSuchElement",
            "exchange min = throws.NoSuchElement; exchange max = throws.NoSuchElement");
    }

    private static void noneAtFirst() {
        EDGES.sentence("Terms", "each peer has some (none at first)");
        EDGES.run(Edges.each(0, 2, "heads 0 # = {}; heads 1 # = {}; exchange # = 0"),
            Edges.each(0, 3, "certify 0 0 # 0 = true; certify 0 0 # 1 = true; certify 0 0 # 2 = true"),
            Edges.each(0, 3, "certify 1 0 # 0 = true; certify 1 0 # 1 = true; certify 1 0 # 2 = true"));
    }

    private static void allTrustedAtFirst() {
        EDGES.sentence("Terms", "and TRUSTS some keys (all at first)");
        EDGES.run(Edges.each(0, 3, "trust 0 # true = true; trust 1 # false = true"),
            Edges.each(0, 3, "trust 0 # false = true; trust 1 # true = false"));
    }

    private static void members() {
        EDGES.sentence("Terms", "The MEMBERS of a branch, for a peer, are the revisions that it has a certificate for,"
            + " by a key that it trusts.");
        EDGES.run(FORKED, "certify 0 2 0 0; certify 0 2 3 0; certify 0 3 3 0; heads 0 0 = {2 3}; trust 0 3 false",
            "heads 0 0 = {2}; trust 0 0 false; heads 0 0 = {}; trust 0 3 true; heads 0 0 = {2 3}; heads 1 0 = {}",
            "heads 0 1 = {}");
        // No key is trusted: no members, so nothing is sent.
        EDGES.run(FORKED, "certify 0 2 0 0", Edges.each(0, 3, "trust 0 # false"), "exchange 0 = 0; has 1 = {0}");
    }

    private static void certify() {
        EDGES.sentence("Promise 16", "The peer gets a certificate of a revision that it has, by a key, for a branch");
        EDGES.run(FORKED, "certify 0 3 3 2 = true; certify 0 0 0 0 = true; certify 1 0 0 0 = true",
            "certify 1 1 0 0 = throws.NoSuchElement; certify 0 4 0 0 = throws.NoSuchElement",
            "certify 0 -1 0 0 = throws.NoSuchElement; certify 0 64 0 0 = throws.NoSuchElement",
            "certify 2 0 0 0 = throws.NoSuchElement; heads 0 2 = {3}; heads 0 0 = {0}; heads 1 0 = {0}; heads 0 1 = {}");
        EDGES.run(LONGEST, "certify 0 39 3 2 = true; certify 0 40 3 2 = throws.NoSuchElement; heads 0 2 = {39}");
    }

    private static void certifyHad() {
        EDGES.sentence("Promise 16", "true, or false if it had that");
        EDGES.run(FORKED, "certify 0 2 1 1 = true; certify 0 2 1 1 = false; certify 0 3 1 1 = true; certify 0 2 2 1 = true",
            "certify 0 2 1 2 = true; certify 0 2 1 1 = false; trust 0 1 false; certify 0 2 1 1 = false; exchange 1 = 5",
            "certify 1 2 1 1 = false; certify 1 3 1 1 = throws.NoSuchElement");
        EDGES.run(LONGEST, Edges.each(0, 39, "certify 0 # 0 0 = true"), Edges.each(0, 39, "certify 0 # 0 0 = false"));
    }

    private static void trust() {
        EDGES.sentence("Promise 17", "The peer trusts a key from now on, or no more: whether it did before.");
        EDGES.run("trust 0 3 true = true; trust 0 3 false = true; trust 0 3 false = false; trust 0 3 true = false",
            "trust 0 3 true = true; trust 1 3 false = true; trust 0 3 true = true; trust 0 0 false = true",
            "trust 0 1 true = true; trust 0 2 true = true; trust 0 3 true = true; trust 0 0 true = false",
            "trust 2 0 true = throws.NoSuchElement; trust -1 0 true = throws.NoSuchElement");
    }

    private static void heads() {
        EDGES.sentence("Promise 18", "The members of a branch, for the peer, that are no ancestors of other members, as bits.");
        EDGES.run(FORKED, "heads 0 0 = {}; certify 0 0 0 0; heads 0 0 = {0}; certify 0 1 1 0; heads 0 0 = {1}",
            "certify 0 2 2 0; certify 0 3 3 0; heads 0 0 = {2 3}; trust 0 2 false; trust 0 3 false; heads 0 0 = {1}",
            "trust 0 1 false; heads 0 0 = {0}; trust 0 0 false; heads 0 0 = {}; heads 2 0 = throws.NoSuchElement");
        EDGES.run(LONGEST, "certify 0 0 0 0; certify 0 39 0 0; heads 0 0 = {39}; certify 0 31 0 0; certify 0 32 0 0",
            "heads 0 0 = {39}; certify 0 31 1 1; heads 0 1 = {31}; certify 0 32 1 1; heads 0 1 = {32}");
        // As many heads as there can be: every one on revision 0.
        EDGES.run(Edges.each(1, 15, "open 0 0; add 0 0 0 false = #; commit 0 = #; certify 0 # 0 0"), "heads 0 0 = {1..15}");
    }

    private static void exchangeMembersAndAncestors() {
        EDGES.sentence("Promise 19", "what each sends is its members of the branch with all their ancestors");
        EDGES.run(FORKED, "exchange 0 = 0; certify 0 2 0 0; exchange 1 = 0; has 1 = {0}; exchange 0 = 3; has 1 = {0 1 2}",
            "exchange 0 = 0; certify 0 3 0 1; trust 0 0 false; exchange 1 = 0; trust 0 0 true; exchange 1 = 2; has 1 = {0..3}");
        EDGES.run(LONGEST, "certify 0 39 0 0; exchange 0 = 40; has 1 = {0..39}; heads 1 0 = {39}; open 1 39; nodes 1 -1 = {0 1}");
        // Revision 0 is had by both: its certificate alone is sent.
        EDGES.run("certify 0 0 0 0; exchange 0 = 1; heads 1 0 = {0}; exchange 0 = 0");
    }

    private static void exchangeCertificates() {
        EDGES.sentence("Promise 19", "and all the certificates (by any key, for any branch) that it has for these");
        EDGES.run(FORKED, "certify 0 2 0 0; certify 0 1 1 1; certify 0 0 2 2; certify 0 2 3 2; certify 0 3 0 2; trust 0 3 false",
            "exchange 0 = 6; has 1 = {0..2}; heads 1 1 = {1}; heads 1 2 = {2}; trust 1 3 false; heads 1 2 = {0}",
            "certify 1 2 3 2 = false; certify 1 1 0 0 = true");
    }

    private static void exchangeWorkedOutFirst() {
        EDGES.sentence("Promise 19", "both work out what they send before anything is received");
        // Peer 1 has revision 1 and certificates of 0, but no member of branch 0 until this exchange.
        EDGES.run("certify 0 0 0 0; open 1 0; add 1 0 0 false; commit 1 = 1; certify 1 0 1 1; certify 1 1 1 1",
            "exchange 0 = 1; has 0 = {0}; heads 0 1 = {}; exchange 0 = 1; heads 0 1 = {0}; has 0 = {0}");
        // The other way round.
        EDGES.run("certify 1 0 0 0; open 0 0; add 0 0 0 false; commit 0 = 1; certify 0 0 1 1; certify 0 1 1 1",
            "exchange 0 = 1; has 1 = {0}; heads 1 1 = {}; exchange 0 = 1; heads 1 1 = {0}; has 1 = {0}");
        // Received certificates make members of revisions that the receiver had: they go with the next exchange.
        EDGES.run(FORKED, "certify 0 3 0 0; exchange 0 = 3; open 1 3; write 1 1 1 9; commit 1 = 4; certify 1 4 1 1",
            "certify 0 1 2 1; exchange 1 = 3; has 0 = {0..4}; heads 0 1 = {4}; heads 1 1 = {4}; exchange 1 = 0");
    }

    private static void exchangeWhatWasLacking() {
        EDGES.sentence("Promise 19", "Each gets what it lacked.");
        EDGES.run("open 0 0; add 0 0 0 false; commit 0 = 1; open 1 0; add 1 0 0 false; commit 1 = 2; certify 0 1 0 0",
            "certify 1 2 1 0; exchange 0 = 4; has 0 = {0..2}; has 1 = {0..2}; heads 0 0 = {1 2}; heads 1 0 = {1 2}",
            "nodes 0 -1 = {0 1}; nodes 1 -1 = {0 2}; merge 0 1 2 = -1; merge 1 1 2 = -1; exchange 0 = 0");
        // Trust, workspaces, listed conflicts, decisions and burials are nobody's but the peer's.
        EDGES.run(FORKED, "trust 0 3 false; certify 0 2 0 0; certify 0 3 3 0; certify 0 3 1 0; bury 0 1 true; exchange 0 = 6",
            "trust 1 3 true = true; trust 0 3 false = false; nodes 1 -1 = {}; merge 1 2 3 = 4; nodes 1 4 = {0 1}",
            "merge 0 2 3 = 5; nodes 0 5 = {0}; has 0 = {0..3 5}; has 1 = {0..4}");
    }

    private static void exchangeAnswer() {
        EDGES.sentence("Promise 19", "Answers how many revisions and certificates these were together.");
        // 38 revisions that the other one lacks, and 390 certificates of these and of revision 0.
        EDGES.run(LONGEST, Edges.each(0, 38, "certify 0 # 0 0; certify 0 # 1 1; certify 0 # 2 2; certify 0 # 3 0;"
            + "certify 0 # 0 1; certify 0 # 1 2; certify 0 # 2 0; certify 0 # 3 1; certify 0 # 0 2; certify 0 # 1 0"),
            "exchange 0 = 428; exchange 0 = 0; has 1 = {0..38}");
        // What both have and send counts for neither.
        EDGES.run("certify 0 0 0 0; certify 1 0 0 0; exchange 0 = 0; certify 0 0 1 0; certify 1 0 2 0; exchange 0 = 2");
    }

    private static void has() {
        EDGES.sentence("Promise 20", "The revisions that a peer has, as bits.");
        EDGES.run("has 0 = 1; has 1 = 1; has 2 = throws.NoSuchElement; has -1 = throws.NoSuchElement");
        EDGES.run(LONGEST, "has 0 = 1099511627775; has 1 = 1; certify 0 32 0 0; exchange 0 = 33; has 1 = {0..32}");
    }
}
