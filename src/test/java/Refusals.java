import java.util.ArrayList;
import java.util.List;

/**
 * Calls that are due to be refused in a situation. "A call that throws an exception changes nothing": each call is
 * made on objects made anew, and all that shows afterwards has to be the same as without the call.
 */
final class Refusals {
    interface Making {
        RevisionStores make();
    }

    interface Asking {
        long of(RevisionStores x);
    }

    interface Numbered {
        long of(RevisionStores x, int number);
    }

    private final Check check;
    private final String situation;
    private final Making making;
    private final List<String> untouched = new ArrayList<>();

    Refusals(Check check, String situation, Making making) {
        this.check = check;
        this.situation = situation;
        this.making = making;
        for (Look.Way way : Look.ways()) {
            untouched.add(way.at(making.make()));
        }
    }

    void index(String call, Asking asked) {
        refused(call, asked, "throws.IndexOutOfBoundsException");
    }

    void argument(String call, Asking asked) {
        refused(call, asked, "throws.IllegalArgumentException");
    }

    void state(String call, Asking asked) {
        refused(call, asked, "throws.IllegalStateException");
    }

    /** A call with each of some numbers that there is no store, document, revision or place for. */
    void index(String call, int[] numbers, Numbered asked) {
        for (int number : numbers) {
            index(call + " " + number, x -> asked.of(x, number));
        }
    }

    /** A call with each of some numbers that are out of its range. */
    void argument(String call, int[] numbers, Numbered asked) {
        for (int number : numbers) {
            argument(call + " " + number, x -> asked.of(x, number));
        }
    }

    private void refused(String call, Asking asked, String exception) {
        List<Look.Way> ways = Look.ways();
        for (int way = 0; way < ways.size(); way++) {
            RevisionStores x = making.make();
            check.due(situation + ": " + call, Check.told(() -> asked.of(x)), exception);
            check.due(situation + ": after " + call, ways.get(way).at(x), untouched.get(way));
        }
    }
}
