import java.util.NoSuchElementException;

/** A new object whose calls and answers are written as texts: "add 0 0 3 true" answers "1". */
final class Script {
    /** The document promises nothing of later calls. */
    static final int MOST_CALLS = 512;

    private final MarkedTrees object = new MarkedTrees();
    private String[] words = {};
    private int calls = 0;

    /** What a call answers: a number, true or false, nothing at all, or throws. with the exception's name. */
    String answer(String call) {
        words = call.trim().split(" +");
        calls++;
        if (calls > MOST_CALLS) {
            throw new AssertionError("call " + calls + " is one too many: " + call);
        }
        try {
            return result();
        } catch (NoSuchElementException | IllegalArgumentException | IllegalStateException e) {
            return "throws." + e.getClass().getSimpleName();
        }
    }

    int callsMade() {
        return calls;
    }

    private int number(int i) {
        switch (words[i]) {
            case "min": return Integer.MIN_VALUE;
            case "max": return Integer.MAX_VALUE;
            default: return Integer.parseInt(words[i]);
        }
    }

    private boolean truth(int i) {
        if (!words[i].equals("true") && !words[i].equals("false")) {
            throw new AssertionError("neither true nor false: " + words[i]);
        }
        return words[i].equals("true");
    }

    private String result() {
        switch (words[0]) {
            case "add": return "" + object.add(number(1), number(2), number(3), truth(4));
            case "commit": return "" + object.commit(number(1));
            case "merge": return "" + object.merge(number(1), number(2), number(3));
            case "conflict": return "" + object.conflict(number(1), number(2), number(3));
            case "about": return "" + object.about(number(1), number(2), number(3));
            case "marks": return "" + object.marks(number(1), number(2), number(3));
            case "nodes": return "" + object.nodes(number(1), number(2));
            case "ancestors": return "" + object.ancestors(number(1));
            case "certify": return "" + object.certify(number(1), number(2), number(3), number(4));
            case "trust": return "" + object.trust(number(1), number(2), truth(3));
            case "heads": return "" + object.heads(number(1), number(2));
            case "exchange": return "" + object.exchange(number(1));
            case "has": return "" + object.has(number(1));
            default: return resultWithoutAnswer();
        }
    }

    private String resultWithoutAnswer() {
        switch (words[0]) {
            case "open": object.open(number(1), number(2)); break;
            case "drop": object.drop(number(1), number(2)); break;
            case "move": object.move(number(1), number(2), number(3), number(4)); break;
            case "write": object.write(number(1), number(2), number(3), number(4)); break;
            case "decide": object.decide(number(1), number(2), number(3), number(4)); break;
            case "bury": object.bury(number(1), number(2), truth(3)); break;
            default: throw new AssertionError("no such call: " + words[0]);
        }
        return "";
    }
}
