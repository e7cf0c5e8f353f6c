/** Promises 16 to 20: certificates, trust, heads, exchange and what a peer has. */
public final class BranchTest {
    private static final Checks CHECKS = new Checks("BranchTest");

    public static void main(String[] args) {
        certify();
        trust();
        heads();
        exchange();
        exchangeIsWorkedOutFirst();
        exchangeByTrust();
        has();
        CHECKS.end();
    }

    /** Revisions 1, 2 on 1 and 3 on 1, all had by peer 0. */
    private static MarkedTrees forked() {
        MarkedTrees x = new MarkedTrees();
        x.open(0, 0);
        x.add(0, 0, 1, false);
        x.commit(0);
        x.write(0, 1, 1, 5);
        x.commit(0);
        x.open(0, 1);
        x.write(0, 1, 2, 6);
        x.commit(0);
        return x;
    }

    private static void certify() {
        MarkedTrees x = forked();
        CHECKS.due("16: new", x.certify(0, 2, 3, 2), true);
        CHECKS.due("16: had", x.certify(0, 2, 3, 2), false);
        CHECKS.due("16: other key", x.certify(0, 2, 0, 2), true);
        CHECKS.due("16: other branch", x.certify(0, 2, 3, 0), true);
        CHECKS.due("16: other revision", x.certify(0, 1, 3, 2), true);
        CHECKS.due("16: other peer", x.certify(1, 0, 3, 2), true);
        CHECKS.noElement("16: peer", () -> x.certify(2, 0, 0, 0));
        CHECKS.noElement("16: no such revision", () -> x.certify(0, 4, 0, 0));
        CHECKS.noElement("16: revision -1", () -> x.certify(0, -1, 0, 0));
        CHECKS.noElement("16: the peer does not have it", () -> x.certify(1, 2, 0, 0));
        CHECKS.noElement("16: key 4", () -> x.certify(0, 1, 4, 0));
        CHECKS.noElement("16: key -1", () -> x.certify(0, 1, -1, 0));
        CHECKS.noElement("16: branch 3", () -> x.certify(0, 1, 0, 3));
        CHECKS.noElement("16: branch -1", () -> x.certify(0, 1, 0, -1));
        CHECKS.due("16: nothing came of these", x.heads(0, 1) | x.heads(1, 0), 0);
    }

    private static void trust() {
        MarkedTrees x = forked();
        x.certify(0, 2, 1, 0);
        x.certify(0, 3, 2, 0);
        CHECKS.due("17: before", x.trust(0, 1, false), true);
        CHECKS.due("17: no more", x.trust(0, 1, false), false);
        CHECKS.due("17: members by others", x.heads(0, 0), 8);
        CHECKS.due("17: another one", x.trust(0, 2, false), true);
        CHECKS.due("17: the first one stays as it was", x.trust(0, 1, false), false);
        CHECKS.due("17: no members", x.heads(0, 0), 0);
        CHECKS.due("17: the other one again", x.trust(0, 2, true), false);
        CHECKS.due("17: the other peer still does", x.trust(1, 1, true), true);
        CHECKS.due("17: again", x.trust(0, 1, true), false);
        CHECKS.due("17: now", x.trust(0, 1, true), true);
        CHECKS.due("17: members by all", x.heads(0, 0), 12);
        CHECKS.noElement("17: peer", () -> x.trust(-1, 0, true));
        CHECKS.noElement("17: key 4", () -> x.trust(0, 4, false));
        CHECKS.noElement("17: key -1", () -> x.trust(0, -1, false));
    }

    private static void heads() {
        MarkedTrees x = forked();
        CHECKS.due("18: none", x.heads(0, 1), 0);
        x.certify(0, 0, 0, 1);
        CHECKS.due("18: revision 0", x.heads(0, 1), 1);
        x.certify(0, 2, 0, 1);
        CHECKS.due("18: not an ancestor, even over one that is no member", x.heads(0, 1), 4);
        x.certify(0, 3, 3, 1);
        CHECKS.due("18: two", x.heads(0, 1), 12);
        CHECKS.due("18: another branch", x.heads(0, 0), 0);
        CHECKS.due("18: another peer", x.heads(1, 1), 0);
        CHECKS.due("18: a merge", x.merge(0, 2, 3), 4);
        CHECKS.due("18: that is no member hides none", x.heads(0, 1), 12);
        x.certify(0, 4, 2, 1);
        CHECKS.due("18: as a member it does", x.heads(0, 1), 16);
        x.trust(0, 2, false);
        CHECKS.due("18: but not by a key that is not trusted", x.heads(0, 1), 12);
        CHECKS.noElement("18: peer", () -> x.heads(2, 1));
        CHECKS.noElement("18: branch 3", () -> x.heads(0, 3));
        CHECKS.noElement("18: branch -1", () -> x.heads(0, -1));
    }

    private static void exchange() {
        MarkedTrees x = forked();
        x.certify(0, 2, 0, 0);
        x.certify(0, 1, 3, 2);
        x.certify(0, 3, 1, 1);
        x.certify(0, 0, 2, 2);
        x.certify(1, 0, 2, 2);
        // Revisions 1 and 2, the certificate of 2 and that of 1 for another branch.
        CHECKS.due("19: exchange", x.exchange(0), 4);
        CHECKS.due("19: has", x.has(1), 7);
        CHECKS.due("19: certificates for any branch", x.heads(1, 2), 2);
        CHECKS.due("19: branch 1 was not sent", x.heads(1, 1), 0);
        CHECKS.due("19: nothing more", x.exchange(0), 0);
        CHECKS.due("19: no members, nothing sent", new MarkedTrees().exchange(2), 0);
        CHECKS.due("19: got", x.certify(1, 1, 3, 2), false);
        x.trust(0, 0, false);
        x.certify(0, 2, 0, 1);
        x.certify(1, 2, 1, 2);
        // Revision 3 and its certificate; that of 2 is for no ancestor of a member.
        CHECKS.due("19: branch 1", x.exchange(1), 2);
        CHECKS.due("19: it is not there", x.certify(1, 2, 0, 1), true);
        // Peer 1's members of branch 2 are 0, 1 and 2; peer 0 lacks one certificate of 2.
        CHECKS.due("19: the other way", x.exchange(2), 1);
        CHECKS.due("19: received", x.certify(0, 2, 1, 2), false);
        CHECKS.noElement("19: branch 3", () -> x.exchange(3));
        CHECKS.noElement("19: branch -1", () -> x.exchange(-1));
    }

    private static void exchangeIsWorkedOutFirst() {
        MarkedTrees x = new MarkedTrees();
        x.certify(0, 0, 0, 0);
        x.open(1, 0);
        x.add(1, 0, 1, false);
        x.commit(1);
        x.certify(1, 1, 0, 1);
        x.certify(1, 0, 1, 1);
        // Peer 1 has no member of branch 0 yet, so it sends nothing, not even for revision 0.
        CHECKS.due("19: one certificate", x.exchange(0), 1);
        CHECKS.due("19: nothing sent back", x.has(0), 1);
        CHECKS.due("19: nor the certificate", x.heads(0, 1), 0);
        // Now revision 0 is its member too, and the certificate by key 1 goes out.
        CHECKS.due("19: then", x.exchange(0), 1);
        CHECKS.due("19: received", x.heads(0, 1), 1);

        MarkedTrees y = new MarkedTrees();
        for (int peer = 0; peer < 2; peer++) {
            y.open(peer, 0);
            y.add(peer, 0, 1, false);
            y.commit(peer);
            y.certify(peer, peer + 1, peer, 0);
        }
        CHECKS.due("19: both ways at once", y.exchange(0), 4);
        CHECKS.due("19: peer 0 has", y.has(0), 7);
        CHECKS.due("19: peer 1 has", y.has(1), 7);
        CHECKS.due("19: heads 0", y.heads(0, 0), 6);
        CHECKS.due("19: heads 1", y.heads(1, 0), 6);
        y.open(0, 2);
        CHECKS.due("19: opened", y.nodes(0, -1), 5);
    }

    private static void exchangeByTrust() {
        MarkedTrees x = forked();
        x.certify(0, 2, 0, 0);
        x.certify(0, 3, 1, 0);
        x.certify(0, 1, 1, 0);
        x.trust(0, 1, false);
        x.trust(1, 0, false);
        // 1 and 2 go out as 2 with its ancestors, with certificates by the key not trusted too.
        CHECKS.due("19: by the sender's trust", x.exchange(0), 4);
        CHECKS.due("19: has", x.has(1), 7);
        CHECKS.due("19: the receiver's members", x.heads(1, 0), 2);
        x.trust(1, 0, true);
        CHECKS.due("19: with more trust", x.heads(1, 0), 4);
    }

    private static void has() {
        MarkedTrees x = forked();
        CHECKS.due("20: made", x.has(0), 15);
        CHECKS.due("20: not received", x.has(1), 1);
        x.merge(0, 2, 3);
        CHECKS.due("20: merged", x.has(0), 31);
        x.certify(0, 3, 0, 0);
        x.exchange(0);
        CHECKS.due("20: received with ancestors alone", x.has(1), 11);
        CHECKS.noElement("20: peer 2", () -> x.has(2));
        CHECKS.noElement("20: peer -1", () -> x.has(-1));
    }
}
