/** Each promise by ordinary calls, the edges that the document names, and wrong inputs; answers reckoned by hand. */
public final class PromisesTest {
    private static final int LOWEST = Integer.MIN_VALUE;
    private static final int HIGHEST = Integer.MAX_VALUE;

    private static final Check check = new Check("PromisesTest");

    public static void main(String[] args) {
        newObject();
        edit();
        editsThatMeet();
        editsToTheLimit();
        delete();
        deletesToTheLimit();
        setDepth();
        stemsByBranches();
        wipe();
        wipeLosesCheckpoints();
        replicate();
        replicateBreaksOff();
        replicateSkipsWhatIsKnown();
        replicateCountsWhatIsStemmed();
        replicateBeyondGaps();
        pending();
        checkpoint();
        revisions();
        documentOf();
        parentOf();
        generation();
        sum();
        valueOf();
        sequence();
        has();
        isLeaf();
        size();
        winner();
        winnerOfAll();
        conflicts();
        count();
        viewAt();
        thrownCallsChangeNothing();
        check.end();
    }

    private static void noStore(String call, StoreCall run) {
        for (int store : new int[] {-1, 3, LOWEST, HIGHEST}) {
            check.noIndex(call + " with store " + store, () -> run.answer(store));
        }
    }

    private static void noDocument(String call, StoreCall run) {
        for (int document : new int[] {-1, 4, LOWEST, HIGHEST}) {
            check.noIndex(call + " with document " + document, () -> run.answer(document));
        }
    }

    /** Expects that three revisions were made. */
    private static void noRevision(String call, StoreCall run) {
        for (int revision : new int[] {-1, 3, 150, LOWEST, HIGHEST}) {
            check.noIndex(call + " with revision " + revision, () -> run.answer(revision));
        }
    }

    private interface StoreCall {
        long answer(int number);
    }

    // ---- promise 1

    private static void newObject() {
        RevisionStores x = new RevisionStores();
        check.due("1 revisions", x.revisions(), 0);
        for (int store = 0; store < 3; store++) {
            check.due("1 size", x.size(store), 0);
            check.due("1 sequence", x.sequence(store), 0);
            check.due("1 count", x.count(store, LOWEST, HIGHEST), 0);
            for (int document = 0; document < 4; document++) {
                check.due("1 winner", x.winner(store, document), -1);
            }
            for (int to = 0; to < 3; to++) {
                if (to != store) {
                    check.due("1 checkpoint", x.checkpoint(store, to), 0);
                    check.due("1 pending", x.pending(store, to), 0);
                }
            }
        }
        // The depth is 20 at first: the first revision is stemmed behind the twenty-first.
        Situations.chain(x, 0, 0, 20);
        check.due("1 size at depth 20", x.size(0), 20);
        x.edit(0, 0, 19, 0);
        check.due("1 size is still 20", x.size(0), 20);
        check.due("1 first is stemmed", x.has(0, 0), false);
        check.due("1 second is not", x.has(0, 1), true);
        check.due("1 another object", new RevisionStores().revisions(), 0);
    }

    // ---- promise 2

    private static void edit() {
        RevisionStores x = new RevisionStores();
        check.due("2 begin", x.edit(0, 0, -1, 0), 0);
        check.due("2 highest value", x.edit(0, 0, 0, 99), 1);
        check.due("2 other document", x.edit(0, 3, -1, 5), 2);
        check.due("2 size", x.size(0), 3);
        check.due("2 sequence", x.sequence(0), 3);
        check.due("2 other store has nothing", x.size(1), 0);

        check.noState("2 begun already", () -> x.edit(0, 0, -1, 0));
        check.noState("2 no leaf any more", () -> x.edit(0, 0, 0, 1));
        check.noState("2 of another document", () -> x.edit(0, 0, 2, 1));
        check.noState("2 the store has it not", () -> x.edit(1, 0, 1, 1));
        noStore("2 edit", store -> x.edit(store, 0, 1, 1));
        noDocument("2 edit", document -> x.edit(0, document, 1, 1));
        for (int revision : new int[] {-2, 3, 150, LOWEST, HIGHEST}) {
            check.noIndex("2 revision " + revision, () -> x.edit(0, 0, revision, 1));
        }
        for (int value : new int[] {-1, 100, LOWEST, HIGHEST}) {
            check.noArgument("2 value " + value, () -> x.edit(0, 0, 1, value));
        }
        check.noIndex("2 store ahead of value", () -> x.edit(3, 0, 1, 100));
        check.noIndex("2 document ahead of value", () -> x.edit(0, 4, 1, 100));
        check.noIndex("2 revision ahead of value", () -> x.edit(0, 0, 3, 100));
        check.noIndex("2 revision ahead of state", () -> x.edit(1, 0, 3, 1));
        check.noArgument("2 value ahead of state", () -> x.edit(0, 0, -1, 100));

        // A document that is gone has revisions; it goes on behind the deletion.
        x.delete(0, 3, 2);
        check.noState("2 gone, not unbegun", () -> x.edit(0, 3, -1, 5));
        check.due("2 behind a deletion", x.edit(0, 3, 3, 5), 4);
        check.due("2 there again", x.winner(0, 3), 4);
    }

    private static void editsThatMeet() {
        RevisionStores x = new RevisionStores();
        x.edit(0, 0, -1, 5);
        check.due("2 the same beginning", x.edit(1, 0, -1, 5), 0);
        check.due("2 another beginning", x.edit(2, 0, -1, 6), 1);
        check.due("2 another document", x.edit(1, 1, -1, 5), 2);
        check.due("2 an edit", x.edit(0, 0, 0, 0), 3);
        check.due("2 a deletion is another kind", x.delete(1, 0, 0), 4);
        check.due("2 the other parent", x.edit(2, 0, 1, 0), 5);
        x.wipe(1);
        check.due("2 the beginning again", x.edit(1, 0, -1, 5), 0);
        check.due("2 sequence after the wipe", x.sequence(1), 1);
        check.due("2 the same edit", x.edit(1, 0, 0, 0), 3);
        check.due("2 it is got", x.has(1, 3), true);
        check.due("2 and counts", x.sequence(1), 2);
        check.due("2 made", x.revisions(), 6);
    }

    private static void editsToTheLimit() {
        RevisionStores x = new RevisionStores();
        check.due("2 the 150th", Situations.chain(x, 0, 0, 99), 98);
        int leaf = 98;
        for (int value = 0; value < 51; value++) {
            leaf = x.edit(0, 0, leaf, value);
        }
        int last = leaf;
        check.due("2 the last one", last, 149);
        check.noState("2 a new one", () -> x.edit(0, 0, last, 1));
        check.noState("2 one that there is", () -> x.edit(1, 0, -1, 1));
        check.noState("3 a deletion", () -> x.delete(0, 0, last));
        check.noIndex("2 no such revision", () -> x.edit(0, 0, 150, 1));
        check.noArgument("2 no such value", () -> x.edit(0, 0, last, 100));
        check.due("2 made", x.revisions(), 150);
        check.due("2 the store", x.size(0), 20);
    }

    // ---- promise 3

    private static void delete() {
        RevisionStores x = new RevisionStores();
        x.edit(0, 0, -1, 5);
        x.edit(0, 1, -1, 6);
        check.due("3 delete", x.delete(0, 0, 0), 2);
        check.due("3 the winner is the deletion", x.winner(0, 0), 2);
        check.due("3 its parent", x.parentOf(2), 0);
        check.due("3 its value", x.valueOf(2), -1);
        check.due("3 its sum", x.sum(2), (31 * 67 + 2 + 3) % 997);
        check.due("3 sequence", x.sequence(0), 3);
        check.due("3 size", x.size(0), 3);
        check.noState("3 a deletion", () -> x.delete(0, 0, 2));
        check.noState("3 no leaf", () -> x.delete(0, 0, 0));
        check.noState("3 of another document", () -> x.delete(0, 0, 1));
        check.noState("3 the store has it not", () -> x.delete(1, 1, 1));
        noStore("3 delete", store -> x.delete(store, 1, 1));
        noDocument("3 delete", document -> x.delete(0, document, 1));
        noRevision("3 delete", revision -> x.delete(0, 1, revision));
        check.noIndex("3 revision ahead of state", () -> x.delete(1, 1, 3));
        x.edit(1, 0, -1, 5);
        check.due("3 the same deletion", x.delete(1, 0, 0), 2);
        check.due("3 it is got", x.has(1, 2), true);
        check.due("3 and counts", x.sequence(1), 2);
        x.edit(2, 0, -1, 5);
        check.due("3 an edit to 0 is another kind", x.edit(2, 0, 0, 0), 3);
    }

    private static void deletesToTheLimit() {
        RevisionStores x = new RevisionStores();
        x.edit(1, 0, -1, 1);
        x.edit(0, 0, -1, 1);
        x.delete(0, 0, 0);
        int leaf = 1;
        for (int made = 2; made < 150; made++) {
            leaf = x.edit(0, 0, leaf, made % 100);
        }
        check.due("3 made", x.revisions(), 150);
        check.noState("3 a deletion that there is", () -> x.delete(1, 0, 0));
        check.due("3 not got", x.has(1, 1), false);
    }

    // ---- promise 4

    private static void setDepth() {
        RevisionStores x = new RevisionStores();
        Situations.chain(x, 0, 0, 5);
        check.due("4 highest", x.setDepth(0, 20), 0);
        check.due("4 as deep as the chain", x.setDepth(0, 5), 0);
        check.due("4 one less", x.setDepth(0, 4), 1);
        check.due("4 the first is stemmed", x.has(0, 0), false);
        check.due("4 the second is not", x.has(0, 1), true);
        check.due("4 the same again", x.setDepth(0, 4), 0);
        check.due("4 lowest", x.setDepth(0, 1), 3);
        check.due("4 the leaf stays", x.isLeaf(0, 4), true);
        check.due("4 size", x.size(0), 1);
        check.due("4 deeper brings nothing back", x.setDepth(0, 20), 0);
        check.due("4 size stays", x.size(0), 1);
        check.due("4 sequence stays", x.sequence(0), 5);
        check.due("4 revisions stay", x.revisions(), 5);
        x.edit(0, 0, 4, 6);
        check.due("4 the new depth holds for edits", x.size(0), 2);
        x.setDepth(0, 1);
        x.edit(0, 0, 5, 7);
        check.due("4 stemmed by an edit", x.size(0), 1);
        check.due("4 another store's depth", Situations.chain(x, 1, 1, 3), 9);
        check.due("4 is its own", x.size(1), 3);
        x.wipe(0);
        Situations.chain(x, 0, 2, 3);
        check.due("4 the depth outlives a wipe", x.size(0), 1);

        noStore("4 setDepth", store -> x.setDepth(store, 5));
        for (int depth : new int[] {0, 21, -1, LOWEST, HIGHEST}) {
            check.noArgument("4 depth " + depth, () -> x.setDepth(1, depth));
        }
        check.noIndex("4 store ahead of depth", () -> x.setDepth(3, 0));
    }

    private static void stemsByBranches() {
        RevisionStores x = new RevisionStores();
        // 0 - 1 - 2 - 3 at store 0, and 0 - 4 from store 1.
        Situations.chain(x, 0, 0, 4);
        x.edit(1, 0, -1, 1);
        x.edit(1, 0, 0, 50);
        x.replicate(1, 0, 4);
        check.due("4 each leaf has to be far off", x.setDepth(0, 2), 1);
        check.due("4 near to leaf 4", x.has(0, 0), true);
        check.due("4 far from leaf 3", x.has(0, 1), false);
        check.due("4 near to leaf 3", x.has(0, 2), true);
        check.due("4 the leaf 4", x.isLeaf(0, 4), true);
        x.edit(0, 0, 4, 51);
        check.due("4 now far from both", x.has(0, 0), false);
        check.due("4 not far yet", x.has(0, 4), true);
        check.due("4 another depth, all documents", x.setDepth(0, 1), 2);
        check.due("4 the leaves", x.size(0), 2);
    }

    // ---- promise 5

    private static void wipe() {
        RevisionStores x = new RevisionStores();
        check.due("5 an empty store", x.wipe(0), 0);
        Situations.chain(x, 0, 0, 3);
        Situations.chain(x, 0, 1, 2);
        x.edit(1, 2, -1, 7);
        check.due("5 what it had", x.wipe(0), 5);
        check.due("5 size", x.size(0), 0);
        check.due("5 sequence", x.sequence(0), 0);
        check.due("5 has", x.has(0, 2), false);
        check.due("5 isLeaf", x.isLeaf(0, 2), false);
        check.due("5 winner", x.winner(0, 0), -1);
        check.due("5 conflicts", x.conflicts(0, 0), 0);
        check.due("5 count", x.count(0, LOWEST, HIGHEST), 0);
        check.due("5 nothing is pending", x.pending(0, 1), 0);
        check.due("5 the revisions stay made", x.revisions(), 6);
        check.due("5 the other store stays", x.size(1), 1);
        check.due("5 again", x.wipe(0), 0);
        check.due("5 what is stemmed does not count", x.setDepth(0, 1), 0);
        Situations.chain(x, 0, 3, 4);
        check.due("5 one was left", x.wipe(0), 1);
        noStore("5 wipe", store -> x.wipe(store));
    }

    private static void wipeLosesCheckpoints() {
        RevisionStores x = new RevisionStores();
        Situations.chain(x, 0, 0, 3);
        x.edit(1, 1, -1, 1);
        x.edit(2, 2, -1, 1);
        x.replicate(0, 1, 4);
        x.replicate(1, 0, 4);
        x.replicate(0, 2, 4);
        x.replicate(2, 0, 4);
        x.replicate(1, 2, 4);
        x.wipe(1);
        check.due("5 to the wiped one", x.checkpoint(0, 1), 0);
        check.due("5 from the wiped one", x.checkpoint(1, 0), 0);
        check.due("5 from it to the third", x.checkpoint(1, 2), 0);
        check.due("5 between the others", x.checkpoint(0, 2), 4);
        check.due("5 and back", x.checkpoint(2, 0), 3);
        check.due("5 all is pending again", x.pending(0, 1), 3);
        // The other store still keeps a high number, the wiped one a low one: the low one counts.
        x.edit(1, 3, -1, 9);
        check.due("5 from the wiped one, kept high there", x.pending(1, 0), 1);
        check.due("5 all comes again", x.replicate(0, 1, 4), 5);
    }

    // ---- promise 6

    private static void replicate() {
        RevisionStores x = new RevisionStores();
        Situations.chain(x, 0, 0, 3);
        Situations.chain(x, 0, 1, 2);
        check.due("6 all that it has", x.replicate(0, 1, 4), 5);
        check.due("6 size", x.size(1), 5);
        check.due("6 sequence is one for each document", x.sequence(1), 2);
        check.due("6 the first store stays", x.sequence(0), 5);
        check.due("6 again", x.replicate(0, 1, 4), 0);
        check.due("6 back", x.replicate(1, 0, 4), 0);
        check.due("6 no sequence for nothing", x.sequence(0), 5);
        check.due("6 the same winner", x.winner(1, 0), 2);

        x.edit(0, 0, 2, 10);
        x.edit(1, 0, 2, 11);
        check.due("6 a branch", x.replicate(0, 1, 1), 1);
        check.due("6 a conflict", x.conflicts(1, 0), 1);
        check.due("6 the other branch", x.replicate(1, 0, 1), 1);
        check.due("6 the same winner of both", x.winner(0, 0), x.winner(1, 0));

        for (int limit : new int[] {0, 5, -1, LOWEST, HIGHEST}) {
            check.noArgument("6 limit " + limit, () -> x.replicate(0, 1, limit));
        }
        for (int store = 0; store < 3; store++) {
            int same = store;
            check.noArgument("6 the same store", () -> x.replicate(same, same, 1));
        }
        noStore("6 from", store -> x.replicate(store, 0, 1));
        noStore("6 to", store -> x.replicate(0, store, 1));
        check.noIndex("6 store ahead of limit", () -> x.replicate(0, 3, 0));
        check.noIndex("6 store ahead of the same", () -> x.replicate(3, 3, 1));
    }

    private static void replicateBreaksOff() {
        RevisionStores x = new RevisionStores();
        for (int document = 0; document < 4; document++) {
            x.edit(0, document, -1, document);
        }
        x.edit(0, 0, 0, 9);
        // By rising sequences now: documents 1, 2, 3, 0, with 2, 3, 4, 5.
        check.due("6 the first one", x.replicate(0, 1, 1), 1);
        check.due("6 is document 1", x.winner(1, 1), 1);
        check.due("6 not yet 0", x.winner(1, 0), -1);
        check.due("6 its sequence is the checkpoint", x.checkpoint(0, 1), 2);
        check.due("6 two more", x.replicate(0, 1, 2), 2);
        check.due("6 checkpoint", x.checkpoint(0, 1), 4);
        x.edit(0, 1, 1, 8);
        check.due("6 the next is 0, with two revisions", x.replicate(0, 1, 1), 2);
        check.due("6 checkpoint", x.checkpoint(0, 1), 5);
        check.due("6 then 1 again", x.replicate(0, 1, 1), 1);
        check.due("6 checkpoint at the end", x.checkpoint(0, 1), 6);
        check.due("6 sequence of the other store", x.sequence(1), 5);
        check.due("6 the third store, four at once", x.replicate(0, 2, 4), 6);
        check.due("6 its checkpoint", x.checkpoint(0, 2), 6);
        check.due("6 its sequence", x.sequence(2), 4);
    }

    private static void replicateSkipsWhatIsKnown() {
        RevisionStores x = new RevisionStores();
        Situations.chain(x, 0, 0, 2);
        x.replicate(0, 1, 4);
        x.edit(1, 0, 1, 3);
        x.setDepth(1, 1);
        // Store 1 has only revision 2, which descends from all that store 0 has.
        check.due("6 it has a descendant of the leaf", x.replicate(0, 1, 4), 0);
        x.wipe(0);
        Situations.chain(x, 0, 0, 2);
        check.due("6 also after a wipe", x.replicate(0, 1, 4), 0);
        check.due("6 no sequence for it", x.sequence(1), 2);
        check.due("6 a document gone through counts", x.checkpoint(0, 1), 2);
        check.due("6 the leaf alone goes back", x.replicate(1, 0, 4), 1);
        check.due("6 and the ancestors stay", x.size(0), 3);

        RevisionStores y = new RevisionStores();
        Situations.chain(y, 0, 0, 2);
        y.replicate(0, 1, 4);
        y.edit(1, 0, 1, 3);
        y.setDepth(2, 1);
        y.edit(2, 0, -1, 1);
        check.due("6 ancestors that it has are not got", y.replicate(1, 2, 4), 2);
        check.due("6 and are stemmed", y.size(2), 1);
        check.due("6 with a sequence for it", y.sequence(2), 2);

        RevisionStores z = new RevisionStores();
        Situations.chain(z, 0, 0, 3);
        z.setDepth(1, 1);
        z.replicate(0, 1, 4);
        z.setDepth(1, 20);
        z.replicate(0, 2, 4);
        check.due("6 it has the leaf, and gets no ancestors", z.replicate(2, 1, 4), 0);
        check.due("6 its size stays", z.size(1), 1);
    }

    private static void replicateCountsWhatIsStemmed() {
        RevisionStores x = new RevisionStores();
        x.setDepth(1, 2);
        Situations.chain(x, 0, 0, 5);
        check.due("6 stemmed at once included", x.replicate(0, 1, 4), 5);
        check.due("6 what is left of it", x.size(1), 2);

        // Two leaves at once: 0 - 1 - 2 - 3 and 0 - 4; the document comes whole, and is stemmed then.
        RevisionStores y = new RevisionStores();
        Situations.chain(y, 0, 0, 4);
        y.edit(1, 0, -1, 1);
        y.edit(1, 0, 0, 50);
        y.replicate(1, 0, 4);
        y.setDepth(2, 2);
        check.due("6 the shared ancestor counts once", y.replicate(0, 2, 4), 5);
        check.due("6 near to the second leaf", y.has(2, 0), true);
        check.due("6 far from the first", y.has(2, 1), false);
        check.due("6 size", y.size(2), 4);
        check.due("6 one sequence for both leaves", y.sequence(2), 1);
    }

    private static void replicateBeyondGaps() {
        RevisionStores x = new RevisionStores();
        Situations.chain(x, 0, 0, 4);
        x.edit(1, 0, -1, 1);
        x.edit(1, 0, 0, 50);
        x.replicate(1, 0, 4);
        x.setDepth(0, 2);
        // Store 0 has 0, 2, 3 and 4, and not 1: a gap in the line from 3 to 0.
        x.wipe(1);
        x.edit(1, 0, -1, 1);
        x.edit(1, 0, 0, 50);
        check.due("6 the line but for 0 and 1", x.replicate(0, 1, 4), 2);
        check.due("6 into an empty store", x.replicate(0, 2, 4), 4);
        check.due("6 beyond the gap", x.has(2, 0), true);
        check.due("6 not the gap", x.has(2, 1), false);
        x.setDepth(0, 1);
        x.wipe(2);
        x.edit(2, 0, -1, 1);
        check.due("6 leaves alone", x.replicate(0, 2, 4), 2);
        check.due("6 no leaf any more, beyond a gap", x.isLeaf(2, 0), false);
    }

    // ---- promises 7 and 8

    private static void pending() {
        RevisionStores x = new RevisionStores();
        for (int document = 0; document < 4; document++) {
            Situations.chain(x, 0, document, 2);
        }
        check.due("7 all documents", x.pending(0, 1), 4);
        check.due("7 nothing back", x.pending(1, 0), 0);
        x.replicate(0, 1, 3);
        check.due("7 one is left", x.pending(0, 1), 1);
        check.due("7 three to go back", x.pending(1, 0), 3);
        check.due("7 all to the third", x.pending(0, 2), 4);
        x.edit(0, 0, 1, 9);
        check.due("7 an edit more", x.pending(0, 1), 2);
        x.replicate(0, 1, 2);
        check.due("7 none is left", x.pending(0, 1), 0);
        x.setDepth(0, 1);
        check.due("7 stemming is no change", x.pending(0, 1), 0);
        x.wipe(1);
        check.due("7 all again", x.pending(0, 1), 4);
        check.noArgument("7 the same", () -> x.pending(2, 2));
        noStore("7 from", store -> x.pending(store, 0));
        noStore("7 to", store -> x.pending(0, store));
        check.noIndex("7 store ahead of the same", () -> x.pending(3, 3));
    }

    private static void checkpoint() {
        RevisionStores x = new RevisionStores();
        Situations.chain(x, 0, 0, 3);
        Situations.chain(x, 0, 1, 2);
        x.replicate(0, 1, 1);
        check.due("8 broken off", x.checkpoint(0, 1), 3);
        check.due("8 the other way", x.checkpoint(1, 0), 0);
        check.due("8 another store", x.checkpoint(0, 2), 0);
        check.due("8 others", x.checkpoint(2, 1), 0);
        x.replicate(0, 1, 1);
        check.due("8 at the end", x.checkpoint(0, 1), 5);
        x.edit(0, 1, 4, 9);
        check.due("8 an edit does not move it", x.checkpoint(0, 1), 5);
        x.replicate(1, 0, 4);
        check.due("8 the other way too", x.checkpoint(1, 0), 2);
        x.wipe(0);
        check.due("8 the lower of both", x.checkpoint(0, 1), 0);
        x.edit(0, 2, -1, 1);
        x.edit(0, 3, -1, 1);
        x.replicate(0, 1, 1);
        check.due("8 lower than the other store kept before", x.checkpoint(0, 1), 1);
        check.noArgument("8 the same", () -> x.checkpoint(0, 0));
        noStore("8 from", store -> x.checkpoint(store, 0));
        noStore("8 to", store -> x.checkpoint(0, store));
        check.noIndex("8 store ahead of the same", () -> x.checkpoint(-1, -1));
    }

    // ---- promises 9 to 14

    /** Three revisions: 0 and 1 of document 2, 1 being a deletion behind 0, and 2 of document 1. */
    private static RevisionStores three() {
        RevisionStores x = new RevisionStores();
        x.edit(0, 2, -1, 40);
        x.delete(0, 2, 0);
        x.edit(1, 1, -1, 0);
        return x;
    }

    private static void revisions() {
        RevisionStores x = three();
        check.due("9 over all stores and documents", x.revisions(), 3);
        x.replicate(0, 1, 4);
        check.due("9 replication makes none", x.revisions(), 3);
        x.edit(2, 1, -1, 0);
        check.due("9 one that there is", x.revisions(), 3);
        x.wipe(0);
        x.wipe(1);
        x.wipe(2);
        check.due("9 though no store has one", x.revisions(), 3);
    }

    private static void documentOf() {
        RevisionStores x = three();
        check.due("10 of 0", x.documentOf(0), 2);
        check.due("10 of 1", x.documentOf(1), 2);
        check.due("10 of 2", x.documentOf(2), 1);
        noRevision("10 documentOf", x::documentOf);
        x.wipe(0);
        check.due("10 though no store has it", x.documentOf(0), 2);
    }

    private static void parentOf() {
        RevisionStores x = three();
        check.due("11 none", x.parentOf(0), -1);
        check.due("11 of 1", x.parentOf(1), 0);
        check.due("11 none either", x.parentOf(2), -1);
        noRevision("11 parentOf", x::parentOf);
        x.setDepth(0, 1);
        check.due("11 though it is stemmed", x.parentOf(1), 0);
    }

    private static void generation() {
        RevisionStores x = three();
        check.due("12 first", x.generation(0), 1);
        check.due("12 behind it", x.generation(1), 2);
        check.due("12 another document", x.generation(2), 1);
        noRevision("12 generation", x::generation);
        x.edit(0, 2, 1, 3);
        check.due("12 third", x.generation(3), 3);
    }

    private static void sum() {
        RevisionStores x = three();
        int first = 31 + 7 * 40 + 1;
        int second = (31 * first + 2 + 3) % 997;
        check.due("13 without a parent", x.sum(0), first);
        check.due("13 a deletion", x.sum(1), second);
        check.due("13 the lowest", x.sum(2), 32);
        noRevision("13 sum", x::sum);
        x.edit(0, 2, 1, 99);
        check.due("13 behind a deletion", x.sum(3), (31 * second + 7 * 99 + 3) % 997);
        x.edit(2, 3, -1, 99);
        check.due("13 the highest first", x.sum(4), 31 + 693 + 1);
    }

    private static void valueOf() {
        RevisionStores x = three();
        check.due("14 a value", x.valueOf(0), 40);
        check.due("14 a deletion", x.valueOf(1), -1);
        check.due("14 the value 0", x.valueOf(2), 0);
        noRevision("14 valueOf", x::valueOf);
    }

    // ---- promises 15 to 18

    private static void sequence() {
        RevisionStores x = three();
        check.due("15 an edit and a deletion", x.sequence(0), 2);
        check.due("15 one edit", x.sequence(1), 1);
        check.due("15 nothing", x.sequence(2), 0);
        x.replicate(0, 1, 4);
        check.due("15 two revisions of one document", x.sequence(1), 2);
        check.due("15 the giver stays", x.sequence(0), 2);
        x.replicate(0, 1, 4);
        x.setDepth(1, 1);
        check.due("15 nothing new", x.sequence(1), 2);
        x.wipe(1);
        check.due("15 wiped", x.sequence(1), 0);
        noStore("15 sequence", x::sequence);
    }

    private static void has() {
        RevisionStores x = three();
        check.due("16 its own", x.has(0, 0), true);
        check.due("16 another store's", x.has(0, 2), false);
        check.due("16 another store's", x.has(1, 0), false);
        x.replicate(0, 1, 4);
        check.due("16 replicated", x.has(1, 0), true);
        x.setDepth(1, 1);
        check.due("16 stemmed", x.has(1, 0), false);
        check.due("16 not stemmed", x.has(1, 1), true);
        noStore("16 has", store -> x.has(store, 0) ? 1 : 0);
        noRevision("16 has", revision -> x.has(0, revision) ? 1 : 0);
    }

    private static void isLeaf() {
        RevisionStores x = three();
        check.due("17 with a child", x.isLeaf(0, 0), false);
        check.due("17 without", x.isLeaf(0, 1), true);
        check.due("17 another store's", x.isLeaf(0, 2), false);
        x.edit(2, 2, -1, 40);
        check.due("17 the child is elsewhere", x.isLeaf(2, 0), true);
        x.replicate(0, 2, 4);
        check.due("17 now it is here", x.isLeaf(2, 0), false);
        x.edit(2, 2, 1, 5);
        x.edit(2, 2, 3, 6);
        x.wipe(1);
        x.setDepth(2, 1);
        x.edit(1, 2, -1, 40);
        x.replicate(2, 1, 4);
        check.due("17 a descendant, the child being stemmed", x.isLeaf(1, 0), false);
        check.due("17 two leaves are not between", x.size(1), 2);
        noStore("17 isLeaf", store -> x.isLeaf(store, 0) ? 1 : 0);
        for (int revision : new int[] {-1, 5, 150, LOWEST, HIGHEST}) {
            check.noIndex("17 isLeaf of " + revision, () -> x.isLeaf(0, revision) ? 1 : 0);
        }
    }

    private static void size() {
        RevisionStores x = three();
        check.due("18 two", x.size(0), 2);
        check.due("18 one", x.size(1), 1);
        check.due("18 none", x.size(2), 0);
        x.replicate(0, 1, 4);
        check.due("18 over all documents", x.size(1), 3);
        x.setDepth(1, 1);
        check.due("18 less what is stemmed", x.size(1), 2);
        x.wipe(1);
        check.due("18 wiped", x.size(1), 0);
        noStore("18 size", x::size);
    }

    // ---- promises 19 to 21

    private static void winner() {
        RevisionStores x = new RevisionStores();
        check.due("19 none", x.winner(0, 0), -1);
        x.edit(0, 0, -1, 1);
        x.edit(1, 0, -1, 2);
        x.replicate(1, 0, 4);
        check.due("19 the greater sum", x.winner(0, 0), 1);
        x.edit(0, 0, 0, 0);
        check.due("19 the greater generation", x.winner(0, 0), 2);
        x.delete(0, 0, 2);
        check.due("19 no deletion", x.winner(0, 0), 1);
        x.delete(0, 0, 1);
        check.due("19 all are deletions", x.winner(0, 0), 3);
        check.due("19 of another document", x.winner(0, 1), -1);
        noStore("19 winner", store -> x.winner(store, 0));
        noDocument("19 winner", document -> x.winner(0, document));

        // Sums: 7 * 32 = 224 behind the one, 31 * 7 = 217 and 7 behind the other: the same, so the lower number.
        RevisionStores y = new RevisionStores();
        y.edit(0, 0, -1, 1);
        y.edit(1, 0, -1, 0);
        y.edit(1, 0, 1, 32);
        y.edit(0, 0, 0, 1);
        check.due("19 the same sums", y.sum(2), y.sum(3));
        y.replicate(0, 1, 4);
        y.replicate(1, 0, 4);
        check.due("19 the lower number", y.winner(0, 0), 2);
        check.due("19 in both stores", y.winner(1, 0), 2);
    }

    private static void winnerOfAll() {
        RevisionStores x = new RevisionStores();
        check.due("20 none", x.winnerOfAll(0), -1);
        x.edit(0, 0, -1, 1);
        check.due("20 one", x.winnerOfAll(0), 0);
        x.edit(1, 0, -1, 2);
        check.due("20 the better of two stores", x.winnerOfAll(0), 1);
        x.delete(1, 0, 1);
        check.due("20 the deletion is a leaf of all", x.winnerOfAll(0), 0);
        x.edit(2, 0, -1, 2);
        check.due("20 its parent is no leaf of all", x.winnerOfAll(0), 0);
        check.due("20 though it is of the store", x.winner(2, 0), 1);
        x.delete(0, 0, 0);
        check.due("20 all are gone", x.winnerOfAll(0), 2);
        check.due("20 another document", x.winnerOfAll(3), -1);
        x.wipe(1);
        check.due("20 what no store has does not count", x.winnerOfAll(0), 1);
        x.wipe(0);
        x.wipe(2);
        check.due("20 none any more", x.winnerOfAll(0), -1);
        noDocument("20 winnerOfAll", x::winnerOfAll);
    }

    private static void conflicts() {
        RevisionStores x = new RevisionStores();
        check.due("21 none", x.conflicts(0, 0), 0);
        x.edit(0, 0, -1, 1);
        check.due("21 one leaf", x.conflicts(0, 0), 0);
        x.edit(1, 0, -1, 2);
        x.edit(2, 0, -1, 3);
        x.replicate(1, 0, 4);
        x.replicate(2, 0, 4);
        check.due("21 three leaves", x.conflicts(0, 0), 2);
        check.due("21 in the other store", x.conflicts(1, 0), 0);
        check.due("21 of another document", x.conflicts(0, 1), 0);
        x.delete(0, 0, 0);
        check.due("21 a deletion does not count", x.conflicts(0, 0), 1);
        x.delete(0, 0, 1);
        check.due("21 nor the second", x.conflicts(0, 0), 0);
        x.delete(0, 0, 2);
        check.due("21 not below 0", x.conflicts(0, 0), 0);
        noStore("21 conflicts", store -> x.conflicts(store, 0));
        noDocument("21 conflicts", document -> x.conflicts(0, document));
    }

    // ---- promises 22 and 23

    /** Documents 0 to 3 with the values 50, 7, 50 and 0 at store 0. */
    private static RevisionStores four() {
        RevisionStores x = new RevisionStores();
        x.edit(0, 0, -1, 50);
        x.edit(0, 1, -1, 7);
        x.edit(0, 2, -1, 50);
        x.edit(0, 3, -1, 0);
        return x;
    }

    private static void count() {
        RevisionStores x = four();
        check.due("22 any", x.count(0, LOWEST, HIGHEST), 4);
        check.due("22 both ends count", x.count(0, 7, 50), 3);
        check.due("22 above the low end", x.count(0, 8, 50), 2);
        check.due("22 below the high end", x.count(0, 7, 49), 1);
        check.due("22 one number", x.count(0, 0, 0), 1);
        check.due("22 turned round", x.count(0, 50, 7), 0);
        check.due("22 turned round wholly", x.count(0, HIGHEST, LOWEST), 0);
        check.due("22 below all", x.count(0, LOWEST, -1), 0);
        check.due("22 an empty store", x.count(1, LOWEST, HIGHEST), 0);
        x.delete(0, 3, 3);
        check.due("22 gone", x.count(0, LOWEST, HIGHEST), 3);
        check.due("22 gone, with the value 0", x.count(0, 0, 0), 0);
        check.due("22 nor as -1", x.count(0, -1, 0), 0);
        x.edit(0, 1, 1, 60);
        check.due("22 the winner's value", x.count(0, 60, 60), 1);
        check.due("22 not the old one", x.count(0, 7, 7), 0);
        noStore("22 count", store -> x.count(store, 0, 99));
    }

    private static void viewAt() {
        RevisionStores x = four();
        check.due("23 the lowest value", x.viewAt(0, 0), 3);
        check.due("23 the next", x.viewAt(0, 1), 1);
        check.due("23 the same value, by number", x.viewAt(0, 2), 0);
        check.due("23 the last", x.viewAt(0, 3), 2);
        for (int place : new int[] {4, -1, LOWEST, HIGHEST}) {
            check.noIndex("23 place " + place, () -> x.viewAt(0, place));
        }
        check.noIndex("23 an empty store", () -> x.viewAt(1, 0));
        x.delete(0, 3, 3);
        check.due("23 without the gone one", x.viewAt(0, 0), 1);
        check.noIndex("23 one place less", () -> x.viewAt(0, 3));
        x.edit(0, 1, 1, 51);
        check.due("23 by the new value", x.viewAt(0, 2), 1);
        noStore("23 viewAt", store -> x.viewAt(store, 0));
    }

    // ---- the terms

    private static void thrownCallsChangeNothing() {
        RevisionStores x = new RevisionStores();
        Situations.chain(x, 0, 0, 3);
        x.edit(0, 1, -1, 4);
        x.replicate(0, 1, 1);
        String before = state(x);
        Check.told(() -> x.edit(0, 0, 2, 100));
        Check.told(() -> x.edit(0, 0, 1, 9));
        Check.told(() -> x.edit(2, 0, 2, 9));
        Check.told(() -> x.edit(0, 0, -1, 9));
        Check.told(() -> x.delete(0, 1, 2));
        Check.told(() -> x.delete(2, 0, 2));
        Check.told(() -> x.setDepth(0, 0));
        Check.told(() -> x.setDepth(3, 1));
        Check.told(() -> x.wipe(3));
        Check.told(() -> x.replicate(0, 1, 0));
        Check.told(() -> x.replicate(0, 1, 5));
        Check.told(() -> x.replicate(0, 0, 4));
        Check.told(() -> x.replicate(0, 3, 4));
        check.due("a call that throws changes nothing", state(x), before);
    }

    private static String state(RevisionStores x) {
        StringBuilder state = new StringBuilder().append(x.revisions());
        for (int store = 0; store < 3; store++) {
            state.append('/').append(x.sequence(store)).append(' ').append(x.size(store));
            for (int document = 0; document < 4; document++) {
                state.append(' ').append(x.winner(store, document));
            }
            state.append(' ').append(x.checkpoint(store, (store + 1) % 3));
            state.append(' ').append(x.checkpoint(store, (store + 2) % 3));
        }
        return state.toString();
    }
}
