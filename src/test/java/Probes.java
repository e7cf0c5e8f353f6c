import java.util.ArrayList;
import java.util.List;

/**
 * All that can be told of an object, as texts. What a call tells may change the object, so each
 * probe is put to an object of its own, after the same run of calls.
 */
final class Probes {
    /** One look at an object, from some side. */
    interface Probe {
        void look(Asked asked);
    }

    /** An object that is asked, and what it has answered. */
    static final class Asked {
        private final Script script;
        private final StringBuilder answers = new StringBuilder();

        Asked(Script script) {
            this.script = script;
        }

        String ask(String call) {
            String answer = script.answer(call);
            answers.append(call).append(" = ").append(answer).append('\n');
            return answer;
        }

        String answers() {
            return answers.toString();
        }
    }

    private Probes() { }

    static List<Probe> all() {
        List<Probe> all = new ArrayList<>(List.of(Probes::sets, Probes::listedConflicts, Probes::trustedKeys,
            Probes::exchanges, Probes::nextNumbers));
        for (int revision : new int[] {0, 1, 2, 3, 4, 5, 38, 39, 40}) {
            all.add(asked -> tree(asked, revision));
            all.add(asked -> certificates(asked, revision));
        }
        for (int peer = 0; peer < 2; peer++) {
            int p = peer;
            all.add(asked -> workspace(asked, p));
            all.add(asked -> decisions(asked, p));
        }
        return all;
    }

    static String answers(Script script, Probe probe) {
        Asked asked = new Asked(script);
        probe.look(asked);
        return asked.answers();
    }

    private static void sets(Asked asked) {
        for (int peer = 0; peer < 2; peer++) {
            asked.ask("has " + peer);
            for (int revision = -1; revision <= 40; revision++) {
                asked.ask("nodes " + peer + " " + revision);
            }
            for (int branch = 0; branch < 3; branch++) {
                asked.ask("heads " + peer + " " + branch);
            }
        }
        for (int revision = 0; revision <= 40; revision++) {
            asked.ask("ancestors " + revision);
        }
    }

    private static void listedConflicts(Asked asked) {
        for (int peer = 0; peer < 2; peer++) {
            for (int i = 0; i < 48; i++) {
                asked.ask("conflict " + peer + " " + i + " 0");
                asked.ask("conflict " + peer + " " + i + " 1");
            }
        }
    }

    private static void trustedKeys(Asked asked) {
        for (int key = 0; key < 4; key++) {
            asked.ask("trust 0 " + key + " true");
            asked.ask("trust 1 " + key + " true");
        }
    }

    private static void exchanges(Asked asked) {
        for (int branch = 0; branch < 3; branch++) {
            asked.ask("exchange " + branch);
            asked.ask("has 0");
            asked.ask("has 1");
        }
    }

    private static void tree(Asked asked, int revision) {
        for (int node = 0; node < 16; node++) {
            for (int what = 0; what < 6; what++) {
                asked.ask("about " + revision + " " + node + " " + what);
            }
            for (int which = 0; which < 3; which++) {
                asked.ask("marks " + revision + " " + node + " " + which);
            }
        }
    }

    private static void certificates(Asked asked, int revision) {
        for (int key = 0; key < 4; key++) {
            for (int branch = 0; branch < 3; branch++) {
                asked.ask("certify 0 " + revision + " " + key + " " + branch);
                asked.ask("certify 1 " + revision + " " + key + " " + branch);
            }
        }
    }

    /** The workspace shows in the revision that is made of it, and its base in that one's ancestors. */
    private static void workspace(Asked asked, int peer) {
        String revision = asked.ask("commit " + peer);
        if (!revision.startsWith("throws.")) {
            asked.ask("ancestors " + revision);
            tree(asked, Integer.parseInt(revision));
        } else {
            // Where no revision can be made, each node's place still shows in what can be added.
            for (int parent = 0; parent < 16; parent++) {
                for (int name = 0; name < 10; name++) {
                    asked.ask("add " + peer + " " + parent + " " + name + " true");
                }
            }
        }
    }

    /** A file each, which is a new one in all: nothing of it was there before. */
    private static void nextNumbers(Asked asked) {
        for (int peer = 0; peer < 2; peer++) {
            asked.ask("open " + peer + " 0");
            String node = asked.ask("add " + peer + " 0 0 false");
            String revision = asked.ask("commit " + peer);
            for (int what = 0; what < 6 && !node.startsWith("throws.") && !revision.startsWith("throws."); what++) {
                asked.ask("about " + revision + " " + node + " " + what);
            }
        }
    }

    /** What is decided and buried shows in the conflicts of a merge and, once all are decided, in its tree. */
    private static void decisions(Asked asked, int peer) {
        String merge = "merge " + peer + " 2 3";
        String answer = asked.ask(merge);
        for (int i = 0; answer.startsWith("-") && i < -Integer.parseInt(answer); i++) {
            String node = asked.ask("conflict " + peer + " " + i + " 0");
            String kind = asked.ask("conflict " + peer + " " + i + " 1");
            asked.ask("decide " + peer + " " + node + " " + kind + " 0");
        }
        answer = answer.startsWith("-") ? asked.ask(merge) : answer;
        if (!answer.startsWith("-") && !answer.startsWith("throws.")) {
            tree(asked, Integer.parseInt(answer));
        }
    }
}
