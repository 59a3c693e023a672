import java.util.ArrayList;
import java.util.List;

/** Long runs of calls of every kind, each answer compared with that of the plain Model. */
public final class ModelTest {
    private static final int RUNS = 600;
    private static final int MOST_CALLS = 512;
    // The calls of agree: two replications, and the winners of four documents at two stores.
    private static final int AGREEING = 10;

    private static final Check check = new Check("ModelTest");
    private static long seed;

    private static RevisionStores real;
    private static Model model;
    private static List<String> calls;
    private static boolean failed;
    private static int called;

    // How many documents and values a run uses, its greatest depth (0: never set), how often it wipes and errs.
    private static int documents;
    private static int values;
    private static int depths;
    private static int wipes;
    private static int wrongs;

    public static void main(String[] args) {
        for (int run = 0; run < RUNS && check.wrong() == 0; run++) {
            seed = 1000003L * run + 17;
            start();
            // Half of the runs look at all that there is at their end, the others ask all along.
            boolean looksLast = run % 2 == 0;
            int changes = looksLast ? 20 + below(340) : MOST_CALLS;
            while (called < changes && !failed) {
                if (looksLast || below(3) == 0) {
                    change();
                } else {
                    ask();
                }
            }
            while (looksLast && called < MOST_CALLS - AGREEING && !failed) {
                ask();
            }
            if (looksLast && !failed) {
                agree();
            }
        }
        check.end();
    }

    private static void start() {
        real = new RevisionStores();
        model = new Model();
        calls = new ArrayList<>();
        failed = false;
        called = 0;
        documents = 1 + below(4);
        values = pick(2, 4, 100);
        depths = pick(3, 6, 20, 0);
        wipes = pick(0, 1, 4);
        wrongs = pick(0, 5, 15);
    }

    /** A number from 0 on, below a bound, always the same ones for the same seed. */
    private static int below(int bound) {
        seed = seed * 6364136223846793005L + 1442695040888963407L;
        return (int) ((seed >>> 33) % bound);
    }

    private static int pick(int... some) {
        return some[below(some.length)];
    }

    private static boolean chance(int inHundred) {
        return below(100) < inHundred;
    }

    private static int store() {
        return chance(wrongs) ? below(5) - 1 : below(3);
    }

    private static int document() {
        return chance(wrongs) ? below(6) - 1 : below(documents);
    }

    private static int anyRevision() {
        int edge = chance(wrongs) ? 2 : 0;
        return below(model.revisions() + 1 + edge) - edge / 2;
    }

    /** Mostly a leaf that an edit can follow, if store and document have one. */
    private static int leafOf(int store, int document) {
        if (store < 0 || store > 2 || chance(5 + wrongs)) {
            return anyRevision();
        }
        List<Model.Revision> leaves = Model.leaves(model.of(model.held.get(store), document));
        if (leaves.isEmpty()) {
            return -1;
        }
        return leaves.get(below(leaves.size())).number();
    }

    private static void change() {
        int store = store();
        int kind = below(100);
        if (kind < 55) {
            int document = document();
            int revision = leafOf(store, document);
            int value = chance(wrongs) ? pick(-1, 100, 99, 0) : below(values);
            call("edit(" + store + ", " + document + ", " + revision + ", " + value + ")",
                    () -> real.edit(store, document, revision, value),
                    () -> model.edit(store, document, revision, value));
        } else if (kind < 65) {
            int document = document();
            int revision = leafOf(store, document);
            call("delete(" + store + ", " + document + ", " + revision + ")",
                    () -> real.delete(store, document, revision),
                    () -> model.delete(store, document, revision));
        } else if (kind < 70 && depths > 0) {
            int depth = chance(wrongs) ? pick(0, 21) : 1 + below(depths);
            call("setDepth(" + store + ", " + depth + ")",
                    () -> real.setDepth(store, depth), () -> model.setDepth(store, depth));
        } else if (kind < 70 + wipes) {
            call("wipe(" + store + ")", () -> real.wipe(store), () -> model.wipe(store));
        } else {
            replicate(store);
        }
    }

    private static void replicate(int from) {
        int to = chance(90) && from >= 0 ? (from + 1 + below(2)) % 3 : store();
        int limit = chance(wrongs) ? pick(0, 5) : 1 + below(4);
        replicate(from, to, limit);
    }

    private static void replicate(int from, int to, int limit) {
        call("replicate(" + from + ", " + to + ", " + limit + ")",
                () -> real.replicate(from, to, limit), () -> model.replicate(from, to, limit));
    }

    // "Two stores that have replicated both ways have the same winners", whatever went on before.
    private static void agree() {
        int one = below(3);
        int other = (one + 1 + below(2)) % 3;
        replicate(one, other, 4);
        replicate(other, one, 4);
        for (int document = 0; document < 4; document++) {
            int of = document;
            call("winner(" + one + ", " + of + ") beside winner(" + other + ", " + of + ")",
                    () -> real.winner(one, of), () -> real.winner(other, of));
        }
    }

    private static void ask() {
        switch (below(5)) {
            case 0 -> askOfReplication();
            case 1 -> askOfRevision();
            case 2, 3 -> askOfStore();
            default -> askOfView();
        }
    }

    private static void askOfReplication() {
        int from = store();
        int to = store();
        if (chance(50)) {
            call("pending(" + from + ", " + to + ")", () -> real.pending(from, to), () -> model.pending(from, to));
        } else {
            call("checkpoint(" + from + ", " + to + ")",
                    () -> real.checkpoint(from, to), () -> model.checkpoint(from, to));
        }
    }

    private static void askOfRevision() {
        int revision = anyRevision();
        String of = "(" + revision + ")";
        switch (below(6)) {
            case 0 -> call("documentOf" + of, () -> real.documentOf(revision), () -> model.documentOf(revision));
            case 1 -> call("parentOf" + of, () -> real.parentOf(revision), () -> model.parentOf(revision));
            case 2 -> call("generation" + of, () -> real.generation(revision), () -> model.generation(revision));
            case 3 -> call("sum" + of, () -> real.sum(revision), () -> model.sum(revision));
            case 4 -> call("valueOf" + of, () -> real.valueOf(revision), () -> model.valueOf(revision));
            default -> call("revisions()", () -> real.revisions(), () -> model.revisions());
        }
    }

    private static void askOfStore() {
        int store = store();
        int document = document();
        int revision = anyRevision();
        String of = "(" + store + ", " + document + ")";
        switch (below(7)) {
            case 0 -> call("sequence(" + store + ")", () -> real.sequence(store), () -> model.sequence(store));
            case 1 -> call("has(" + store + ", " + revision + ")",
                    () -> real.has(store, revision) ? 1 : 0, () -> model.has(store, revision) ? 1 : 0);
            case 2 -> call("isLeaf(" + store + ", " + revision + ")",
                    () -> real.isLeaf(store, revision) ? 1 : 0, () -> model.isLeaf(store, revision) ? 1 : 0);
            case 3 -> call("size(" + store + ")", () -> real.size(store), () -> model.size(store));
            case 4 -> call("winner" + of, () -> real.winner(store, document), () -> model.winner(store, document));
            case 5 -> call("winnerOfAll(" + document + ")",
                    () -> real.winnerOfAll(document), () -> model.winnerOfAll(document));
            default -> call("conflicts" + of,
                    () -> real.conflicts(store, document), () -> model.conflicts(store, document));
        }
    }

    private static void askOfView() {
        int store = store();
        if (chance(50)) {
            int low = below(values + 4) - 2;
            int high = low + below(values + 2) - 1;
            call("count(" + store + ", " + low + ", " + high + ")",
                    () -> real.count(store, low, high), () -> model.count(store, low, high));
        } else {
            int place = below(6) - 1;
            call("viewAt(" + store + ", " + place + ")",
                    () -> real.viewAt(store, place), () -> model.viewAt(store, place));
        }
    }

    private static void call(String text, Check.Call asked, Check.Call dueOne) {
        called++;
        String got = Check.told(asked);
        String want = Check.told(dueOne);
        calls.add(text + " = " + want);
        int before = check.wrong();
        check.due(text, got, want);
        if (check.wrong() > before) {
            failed = true;
            System.out.println("  after:");
            for (String line : calls) {
                System.out.println("    " + line);
            }
        }
    }
}
