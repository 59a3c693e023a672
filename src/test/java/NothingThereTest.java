/** What is answered where nothing is yet: a new object, an empty store, a document that a store has none of. */
public final class NothingThereTest {
    private static final int LOWEST = Integer.MIN_VALUE;
    private static final int HIGHEST = Integer.MAX_VALUE;

    private static final Check check = new Check("NothingThereTest");

    public static void main(String[] args) {
        newObject();
        newObjectKeepsDepth();
        changesOfNewObject();
        firstRevision();
        emptyStoreBesideOthers();
        replicationOfEmptyStores();
        documentOfWhichThereIsNone();
        documentOfOtherStoresAlone();
        documentThatIsGone();
        storeJustWiped();
        storeJustWipedBeginsAgain();
        allStoresWiped();
        check.end();
    }

    /** All that a store answers that has nothing. */
    private static void dueEmpty(String when, RevisionStores x, int store) {
        String of = when + ", store " + store;
        check.due("15 sequence " + of, x.sequence(store), 0);
        check.due("18 size " + of, x.size(store), 0);
        check.due("22 count " + of, x.count(store, LOWEST, HIGHEST), 0);
        check.noIndex("23 viewAt " + of, () -> x.viewAt(store, 0));
        for (int document = 0; document < 4; document++) {
            check.due("19 winner " + of, x.winner(store, document), -1);
            check.due("21 conflicts " + of, x.conflicts(store, document), 0);
        }
        for (int revision = 0; revision < x.revisions(); revision++) {
            check.due("16 has " + of, x.has(store, revision), false);
            check.due("17 isLeaf " + of, x.isLeaf(store, revision), false);
        }
        for (int to = 0; to < 3; to++) {
            if (to != store) {
                check.due("7 pending " + of + " to " + to, x.pending(store, to), 0);
                check.due("8 checkpoint " + of + " to " + to, x.checkpoint(store, to), 0);
                check.due("8 checkpoint " + of + " from " + to, x.checkpoint(to, store), 0);
            }
        }
    }

    // Promise 1: "No revisions."; "Each store has a sequence, 0 at first"; "a checkpoint .. 0 at first".
    private static void newObject() {
        RevisionStores x = new RevisionStores();
        check.due("9 revisions at first", x.revisions(), 0);
        for (int store = 0; store < 3; store++) {
            dueEmpty("at first", x, store);
        }
        for (int document = 0; document < 4; document++) {
            check.due("20 winnerOfAll at first", x.winnerOfAll(document), -1);
        }
    }

    // "Each store has a depth, 1 to 20, at first 20."
    private static void newObjectKeepsDepth() {
        for (int store = 0; store < 3; store++) {
            RevisionStores x = new RevisionStores();
            int leaf = Situations.chain(x, store, 0, 20);
            check.due("1 twenty at store " + store, x.size(store), 20);
            x.edit(store, 0, leaf, 0);
            check.due("1 twenty of twenty-one at store " + store, x.size(store), 20);
            check.due("1 without the first at store " + store, x.has(store, 0), false);
        }
    }

    // Promises 4 and 5 on a store without revisions: none is stemmed, it had none.
    private static void changesOfNewObject() {
        for (int store = 0; store < 3; store++) {
            RevisionStores x = new RevisionStores();
            check.due("4 the lowest depth", x.setDepth(store, 1), 0);
            check.due("4 the highest depth", x.setDepth(store, 20), 0);
            check.due("5 wipe", x.wipe(store), 0);
            check.due("5 wipe again", x.wipe(store), 0);
            check.due("9 revisions", x.revisions(), 0);
            dueEmpty("after depths and wipes", x, store);
        }
    }

    // Promise 2: "-1 to begin the document", in each store, for each document.
    private static void firstRevision() {
        for (int store = 0; store < 3; store++) {
            for (int document = 0; document < 4; document++) {
                firstRevision(store, document);
            }
        }
    }

    private static void firstRevision(int store, int document) {
        RevisionStores x = new RevisionStores();
        check.due("2 the first revision is 0", x.edit(store, document, -1, 0), 0);
        check.due("9 one was made", x.revisions(), 1);
        check.due("10 its document", x.documentOf(0), document);
        check.due("11 its parent", x.parentOf(0), -1);
        check.due("15 the sequence", x.sequence(store), 1);
        check.due("17 a leaf", x.isLeaf(store, 0), true);
        check.due("19 the winner", x.winner(store, document), 0);
        check.due("20 the winner of all", x.winnerOfAll(document), 0);
        check.due("23 the only place", x.viewAt(store, 0), document);
        check.noIndex("23 no second place", () -> x.viewAt(store, 1));
        int other = (store + 1) % 3;
        check.due("16 another store has it not", x.has(other, 0), false);
        check.due("17 nor as a leaf", x.isLeaf(other, 0), false);
        check.due("18 nor any other", x.size(other), 0);
        check.due("19 nor a winner", x.winner(other, document), -1);
    }

    // Promises 15 to 23 of a store that never got anything, beside stores that did.
    private static void emptyStoreBesideOthers() {
        RevisionStores x = new RevisionStores();
        Situations.chain(x, 0, 0, 3);
        x.edit(1, 1, -1, 5);
        x.replicate(0, 1, 4);
        dueEmpty("beside others", x, 2);
        check.due("4 its depth", x.setDepth(2, 1), 0);
        check.due("5 its wipe", x.wipe(2), 0);
        dueEmpty("after its wipe", x, 2);
        check.due("18 the others stay", x.size(0) + x.size(1), 3 + 4);
        check.due("8 and their checkpoint", x.checkpoint(0, 1), 3);
    }

    // Promise 6 from an empty store and to one: "the sequence of the first store, if no document is left", which is 0.
    private static void replicationOfEmptyStores() {
        RevisionStores x = new RevisionStores();
        check.due("6 nothing to nothing, limit 1", x.replicate(0, 1, 1), 0);
        check.due("6 nothing to nothing, limit 4", x.replicate(2, 0, 4), 0);
        for (int store = 0; store < 3; store++) {
            dueEmpty("after replications", x, store);
        }
        Situations.chain(x, 1, 2, 3);
        check.due("6 nothing to something", x.replicate(0, 1, 4), 0);
        check.due("15 the other store's sequence", x.sequence(1), 3);
        check.due("8 the checkpoint", x.checkpoint(0, 1), 0);
        check.due("7 all goes on being pending", x.pending(1, 0), 1);
        check.due("6 something to nothing", x.replicate(1, 0, 1), 3);
        check.due("15 the sequence", x.sequence(0), 1);
        check.due("8 the checkpoint there", x.checkpoint(1, 0), 3);
    }

    // "-1 if the store has none of the document", "0 if there are none", "-1 if no store has one of the document".
    private static void documentOfWhichThereIsNone() {
        RevisionStores x = Situations.shown();
        check.due("5 of all four", x.wipe(2), 4);
        Situations.chain(x, 2, 1, 2);
        for (int document = 0; document < 4; document++) {
            int winner = document == 1 ? 5 : -1;
            check.due("19 winner of " + document, x.winner(2, document), winner);
            check.due("20 winnerOfAll of " + document, x.winnerOfAll(document), winner);
            check.due("21 conflicts of " + document, x.conflicts(2, document), 0);
        }
        check.due("22 count", x.count(2, LOWEST, HIGHEST), 1);
        check.due("23 the only place", x.viewAt(2, 0), 1);
        check.noIndex("23 no second place", () -> x.viewAt(2, 1));
        check.due("7 one document is pending", x.pending(2, 0), 1);
        check.due("6 with its two revisions", x.replicate(2, 0, 4), 2);
    }

    // The same where another store has the document: winnerOfAll goes by "all revisions that some store has".
    private static void documentOfOtherStoresAlone() {
        RevisionStores x = Situations.mixed();
        check.due("19 not at store 0", x.winner(0, 3), -1);
        check.due("19 not at store 1", x.winner(1, 3), -1);
        check.due("19 at store 2", x.winner(2, 3), 7);
        check.due("20 of all", x.winnerOfAll(3), 7);
        check.due("21 conflicts without it", x.conflicts(1, 3), 0);
        check.due("16 has", x.has(0, 7), false);
        check.due("17 isLeaf", x.isLeaf(0, 7), false);
        check.due("22 count", x.count(0, 50, 50), 0);
    }

    // "if that is a deletion, the document is gone there"; "documents .. that are there and not gone".
    private static void documentThatIsGone() {
        RevisionStores x = new RevisionStores();
        x.edit(0, 3, -1, 0);
        x.delete(0, 3, 0);
        check.due("19 the winner is the deletion", x.winner(0, 3), 1);
        check.due("20 of all too", x.winnerOfAll(3), 1);
        check.due("21 no leaf but a deletion", x.conflicts(0, 3), 0);
        check.due("22 it is not counted", x.count(0, LOWEST, HIGHEST), 0);
        check.due("22 nor by the value 0", x.count(0, 0, 0), 0);
        check.due("22 nor by -1", x.count(0, -1, -1), 0);
        check.noIndex("23 it is not shown", () -> x.viewAt(0, 0));
        check.due("7 it is pending as ever", x.pending(0, 1), 1);
        check.due("6 and goes over", x.replicate(0, 1, 1), 2);
        check.due("19 the deletion wins there", x.winner(1, 3), 1);
        check.due("2 it comes back", x.edit(0, 3, 1, 0), 2);
        check.due("22 and is counted again", x.count(0, 0, 0), 1);
        check.due("23 and shown", x.viewAt(0, 0), 3);
    }

    // "A store that is wiped has no revisions, the sequence 0, and keeps no checkpoints (0 for all); its depth stays."
    private static void storeJustWiped() {
        RevisionStores x = Situations.mixed();
        x.replicate(0, 2, 4);
        x.replicate(2, 0, 4);
        x.replicate(1, 2, 4);
        check.due("5 what store 0 had", x.wipe(0), 8);
        dueEmpty("just wiped", x, 0);
        check.due("5 again", x.wipe(0), 0);
        check.due("4 nothing to stem", x.setDepth(0, 20), 0);
        dueEmpty("wiped twice", x, 0);
        check.due("9 the revisions stay made", x.revisions(), 8);
        check.due("18 store 1 stays", x.size(1), 3);
        check.due("18 store 2 stays", x.size(2), 8);
        check.due("8 the checkpoint of the others stays", x.checkpoint(1, 2), 4);
        check.due("5 store 1 had 3, without the stemmed ones", x.wipe(1), 3);
        dueEmpty("wiped", x, 1);
        int leaf = Situations.chain(x, 1, 3, 2);
        check.due("5 its depth 1 stays", x.size(1), 1);
        check.due("5 with the leaf alone", x.isLeaf(1, leaf), true);
    }

    // After a wipe "the lower one of the two numbers" is 0, from the wiped store and to it.
    private static void storeJustWipedBeginsAgain() {
        RevisionStores x = new RevisionStores();
        Situations.chain(x, 0, 0, 3);
        x.edit(0, 1, -1, 7);
        x.replicate(0, 1, 4);
        x.wipe(1);
        check.due("7 both documents for the wiped one", x.pending(0, 1), 2);
        check.due("6 come again", x.replicate(0, 1, 4), 4);
        check.due("15 from the sequence 0 on", x.sequence(1), 2);
        check.due("8 up to the checkpoint as before", x.checkpoint(0, 1), 4);
        x.wipe(0);
        check.due("2 begun again, the same revision", x.edit(0, 0, -1, 1), 0);
        check.due("15 with the sequence 1", x.sequence(0), 1);
        check.due("7 pending, though the other store keeps 4", x.pending(0, 1), 1);
        check.due("6 it knows it", x.replicate(0, 1, 4), 0);
        check.due("8 both keep the low number now", x.checkpoint(0, 1), 1);
        check.due("7 nothing is pending", x.pending(0, 1), 0);
        check.due("2 the next edit", x.edit(0, 0, 0, 50), 4);
        check.due("7 is pending", x.pending(0, 1), 1);
        check.due("6 and goes over", x.replicate(0, 1, 4), 1);
        check.due("8 to the checkpoint 2", x.checkpoint(0, 1), 2);
    }

    // "Revisions are numbered .. in the order in which they are first made": also when no store has one any more.
    private static void allStoresWiped() {
        RevisionStores x = Situations.mixed();
        for (int store = 0; store < 3; store++) {
            x.wipe(store);
        }
        for (int store = 0; store < 3; store++) {
            dueEmpty("all wiped", x, store);
        }
        for (int document = 0; document < 4; document++) {
            check.due("20 no store has one", x.winnerOfAll(document), -1);
        }
        check.due("9 all were made", x.revisions(), 8);
        check.due("14 and are there to ask", x.valueOf(7), 50);
        check.due("2 the same beginning is 7", x.edit(0, 3, -1, 50), 7);
        check.due("2 another one is new", x.edit(1, 3, -1, 51), 8);
        check.due("20 and wins", x.winnerOfAll(3), 8);
    }
}
