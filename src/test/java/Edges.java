/**
 * Tests of single sentences of the document. A row is a call, or a call = the answer that is due;
 * several rows stand in one text with ; between them, and all rows of one run go to a new object.
 * A set of revisions or nodes may be written {0 3 5..9}, an exception by its name behind throws.
 */
final class Edges {
    /** Revision 1 has directories 1, 2 and 3 and files 4 and 5 in the root, with their numbers as names. */
    static final String PLANTED = "open 0 0; add 0 0 1 true; add 0 0 2 true; add 0 0 3 true;"
        + "add 0 0 4 false; add 0 0 5 false; commit 0 = 1";

    private final Checks checks;
    private String sentence = "";
    private int runs = 0;

    Edges(String test) {
        checks = new Checks(test);
    }

    /** The sentence (or the part of one) that the next runs hold the class to, word by word. */
    void sentence(String where, String words) {
        sentence = where + ", \"" + words + "\"";
        runs = 0;
    }

    void run(String... texts) {
        runs++;
        Script script = new Script();
        for (String text : texts) {
            for (String row : text.split(";")) {
                check(script, row.trim());
            }
        }
    }

    private void check(Script script, String row) {
        int split = row.indexOf(" = ");
        String call = split < 0 ? row : row.substring(0, split);
        String got = script.answer(call);
        String what = sentence + ", run " + runs + ", call " + script.callsMade() + ", " + call;
        if (split >= 0) {
            checks.due(what, got, due(row.substring(split + 3).trim()));
        } else if (got.startsWith("throws.")) {
            checks.due(what, got, "no exception");
        }
    }

    private static String due(String text) {
        switch (text) {
            case "throws.NoSuchElement":
            case "throws.IllegalArgument":
            case "throws.IllegalState": return text + "Exception";
            case "min": return "" + Integer.MIN_VALUE;
            case "max": return "" + Integer.MAX_VALUE;
            case "nothing": return "";
            default: return text.startsWith("{") ? "" + bits(text) : text;
        }
    }

    private static long bits(String set) {
        long bits = 0;
        for (String part : set.substring(1, set.length() - 1).trim().split(" +")) {
            if (!part.isEmpty()) {
                String[] ends = part.split("\\.\\.");
                int last = Integer.parseInt(ends[ends.length - 1]);
                for (int k = Integer.parseInt(ends[0]); k <= last; k++) {
                    bits |= 1L << k;
                }
            }
        }
        return bits;
    }

    /** A row for each number from first to last, written in the place of every #. */
    static String each(int first, int last, String row) {
        StringBuilder rows = new StringBuilder();
        for (int k = first; k <= last; k++) {
            rows.append(k == first ? "" : ";").append(row.replace("#", "" + k));
        }
        return rows.toString();
    }

    void end() {
        checks.end();
    }
}
