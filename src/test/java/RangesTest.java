/**
 * The ranges that the document tells: for each call the first and the last number inside, those just outside,
 * and the lowest and highest int. A call that is refused has to change nothing (see Refusals).
 */
public final class RangesTest {
    private static final int LOWEST = Integer.MIN_VALUE;
    private static final int HIGHEST = Integer.MAX_VALUE;
    private static final int[] NO_STORES = {-1, 3, LOWEST, HIGHEST};
    private static final int[] NO_DOCUMENTS = {-1, 4, LOWEST, HIGHEST};
    // Of the mixed situation, which has the revisions 0 to 7.
    private static final int[] NO_REVISIONS = {-1, 8, 149, 150, LOWEST, HIGHEST};

    private static final Check check = new Check("RangesTest");
    private static final Refusals mixed = new Refusals(check, "mixed", Situations::mixed);
    private static final Refusals shown = new Refusals(check, "shown", Situations::shown);
    private static final Refusals blank = new Refusals(check, "new object", RevisionStores::new);

    public static void main(String[] args) {
        storesOfEdits();
        storesOfReplication();
        storesOfAnswers();
        documents();
        revisionsOfEdits();
        revisionsOfAnswers();
        revisionsOfNewObject();
        values();
        depths();
        limits();
        lowsAndHighs();
        places();
        check.end();
    }

    /** An answer of the mixed situation. */
    private static void inside(String call, Refusals.Asking asked, long want) {
        RevisionStores x = Situations.mixed();
        check.due("mixed: " + call, Check.told(() -> asked.of(x)), Long.toString(want));
    }

    private static int bit(boolean holds) {
        return holds ? 1 : 0;
    }

    // "Stores are 0 to 2"; promises 2 to 5: "IndexOutOfBoundsException if there is no such store".
    private static void storesOfEdits() {
        inside("2 edit at store 0", x -> x.edit(0, 3, -1, 1), 8);
        inside("2 edit at store 2", x -> x.edit(2, 0, -1, 1), 8);
        mixed.index("2 edit, store", NO_STORES, (x, store) -> x.edit(store, 3, -1, 1));
        inside("3 delete at store 0", x -> x.delete(0, 0, 1), 8);
        inside("3 delete at store 2", x -> x.delete(2, 3, 7), 8);
        mixed.index("3 delete, store", NO_STORES, (x, store) -> x.delete(store, 0, 1));
        inside("4 setDepth of store 0", x -> x.setDepth(0, 1), 3);
        inside("4 setDepth of store 2", x -> x.setDepth(2, 1), 0);
        mixed.index("4 setDepth, store", NO_STORES, (x, store) -> x.setDepth(store, 1));
        inside("5 wipe of store 0", x -> x.wipe(0), 7);
        inside("5 wipe of store 2", x -> x.wipe(2), 1);
        mixed.index("5 wipe, store", NO_STORES, (x, store) -> x.wipe(store));
    }

    // "Stores are 0 to 2"; promises 6 to 8: "IndexOutOfBoundsException if there is no such store".
    private static void storesOfReplication() {
        inside("6 replicate from 0 to 2", x -> x.replicate(0, 2, 4), 7);
        inside("6 replicate from 2 to 0", x -> x.replicate(2, 0, 4), 1);
        mixed.index("6 replicate, from", NO_STORES, (x, store) -> x.replicate(store, 2, 4));
        mixed.index("6 replicate, to", NO_STORES, (x, store) -> x.replicate(2, store, 4));
        inside("7 pending from 0 to 2", x -> x.pending(0, 2), 3);
        inside("7 pending from 2 to 0", x -> x.pending(2, 0), 1);
        mixed.index("7 pending, from", NO_STORES, (x, store) -> x.pending(store, 2));
        mixed.index("7 pending, to", NO_STORES, (x, store) -> x.pending(2, store));
        inside("8 checkpoint from 0 to 2", x -> x.replicate(0, 2, 4) + x.checkpoint(0, 2), 7 + 7);
        inside("8 checkpoint from 2 to 0", x -> x.replicate(2, 0, 4) + x.checkpoint(2, 0), 1 + 1);
        mixed.index("8 checkpoint, from", NO_STORES, (x, store) -> x.checkpoint(store, 2));
        mixed.index("8 checkpoint, to", NO_STORES, (x, store) -> x.checkpoint(2, store));
    }

    // "Stores are 0 to 2"; promises 15 to 23: "IndexOutOfBoundsException if there is no such store".
    private static void storesOfAnswers() {
        inside("15 sequence of store 0", x -> x.sequence(0), 7);
        inside("15 sequence of store 2", x -> x.sequence(2), 1);
        mixed.index("15 sequence, store", NO_STORES, (x, store) -> x.sequence(store));
        inside("16 has of store 0", x -> bit(x.has(0, 5)), 1);
        inside("16 has of store 2", x -> bit(x.has(2, 7)), 1);
        mixed.index("16 has, store", NO_STORES, (x, store) -> bit(x.has(store, 0)));
        inside("17 isLeaf of store 0", x -> bit(x.isLeaf(0, 6)), 1);
        inside("17 isLeaf of store 2", x -> bit(x.isLeaf(2, 7)), 1);
        mixed.index("17 isLeaf, store", NO_STORES, (x, store) -> bit(x.isLeaf(store, 0)));
        inside("18 size of store 0", x -> x.size(0), 7);
        inside("18 size of store 2", x -> x.size(2), 1);
        mixed.index("18 size, store", NO_STORES, (x, store) -> x.size(store));
        inside("19 winner of store 0", x -> x.winner(0, 1), 4);
        inside("19 winner of store 2", x -> x.winner(2, 3), 7);
        mixed.index("19 winner, store", NO_STORES, (x, store) -> x.winner(store, 0));
        inside("21 conflicts of store 0", x -> x.conflicts(0, 0), 1);
        inside("21 conflicts of store 2", x -> x.replicate(0, 2, 4) + x.conflicts(2, 0), 7 + 1);
        mixed.index("21 conflicts, store", NO_STORES, (x, store) -> x.conflicts(store, 0));
        inside("22 count of store 0", x -> x.count(0, LOWEST, HIGHEST), 2);
        inside("22 count of store 2", x -> x.count(2, LOWEST, HIGHEST), 1);
        mixed.index("22 count, store", NO_STORES, (x, store) -> x.count(store, LOWEST, HIGHEST));
        inside("23 viewAt of store 0", x -> x.viewAt(0, 1), 1);
        inside("23 viewAt of store 2", x -> x.viewAt(2, 0), 3);
        mixed.index("23 viewAt, store", NO_STORES, (x, store) -> x.viewAt(store, 0));
    }

    // "documents 0 to 3"; "IndexOutOfBoundsException if there is no such .. document".
    private static void documents() {
        inside("2 edit of document 0", x -> x.edit(0, 0, 2, 1), 8);
        inside("2 edit of document 3", x -> x.edit(2, 3, 7, 1), 8);
        mixed.index("2 edit, document", NO_DOCUMENTS, (x, document) -> x.edit(0, document, 2, 1));
        mixed.index("2 edit to begin, document", NO_DOCUMENTS, (x, document) -> x.edit(0, document, -1, 1));
        inside("3 delete of document 0", x -> x.delete(0, 0, 2), 8);
        inside("3 delete of document 3", x -> x.delete(2, 3, 7), 8);
        mixed.index("3 delete, document", NO_DOCUMENTS, (x, document) -> x.delete(0, document, 2));
        inside("19 winner of document 0", x -> x.winner(0, 0), 2);
        inside("19 winner of document 3", x -> x.winner(2, 3), 7);
        mixed.index("19 winner, document", NO_DOCUMENTS, (x, document) -> x.winner(0, document));
        inside("20 winnerOfAll of document 0", x -> x.winnerOfAll(0), 2);
        inside("20 winnerOfAll of document 3", x -> x.winnerOfAll(3), 7);
        mixed.index("20 winnerOfAll, document", NO_DOCUMENTS, (x, document) -> x.winnerOfAll(document));
        inside("21 conflicts of document 0", x -> x.conflicts(0, 0), 1);
        inside("21 conflicts of document 3", x -> x.conflicts(2, 3), 0);
        mixed.index("21 conflicts, document", NO_DOCUMENTS, (x, document) -> x.conflicts(0, document));
    }

    // "the leaf that is edited; -1 to begin the document"; "IndexOutOfBoundsException if there is no such .. revision".
    private static void revisionsOfEdits() {
        inside("2 edit, revision -1", x -> x.edit(0, 3, -1, 1), 8);
        inside("2 edit, revision 0", x -> x.wipe(2) + x.edit(2, 0, -1, 10) + x.edit(2, 0, 0, 1), 1 + 0 + 8);
        inside("2 edit, the last revision", x -> x.edit(2, 3, 7, 1), 8);
        int[] none = {-2, 8, 149, 150, LOWEST, HIGHEST};
        mixed.index("2 edit, revision", none, (x, revision) -> x.edit(0, 0, revision, 1));
        inside("3 delete, revision 0", x -> x.edit(2, 0, -1, 10) + x.delete(2, 0, 0), 0 + 8);
        inside("3 delete, the last revision", x -> x.delete(2, 3, 7), 8);
        mixed.index("3 delete, revision", NO_REVISIONS, (x, revision) -> x.delete(0, 0, revision));
    }

    // "Revisions are numbered from 0 on"; "IndexOutOfBoundsException if there is no such revision".
    private static void revisionsOfAnswers() {
        inside("10 documentOf, revision 0", x -> x.documentOf(0), 0);
        inside("10 documentOf, the last one", x -> x.documentOf(7), 3);
        mixed.index("10 documentOf, revision", NO_REVISIONS, (x, revision) -> x.documentOf(revision));
        inside("11 parentOf, revision 0", x -> x.parentOf(0), -1);
        inside("11 parentOf, the last one", x -> x.parentOf(7), -1);
        mixed.index("11 parentOf, revision", NO_REVISIONS, (x, revision) -> x.parentOf(revision));
        inside("12 generation, revision 0", x -> x.generation(0), 1);
        inside("12 generation, the last one", x -> x.generation(7), 1);
        mixed.index("12 generation, revision", NO_REVISIONS, (x, revision) -> x.generation(revision));
        inside("13 sum, revision 0", x -> x.sum(0), 31 + 7 * 10 + 1);
        inside("13 sum, the last one", x -> x.sum(7), 31 + 7 * 50 + 1);
        mixed.index("13 sum, revision", NO_REVISIONS, (x, revision) -> x.sum(revision));
        inside("14 valueOf, revision 0", x -> x.valueOf(0), 10);
        inside("14 valueOf, the last one", x -> x.valueOf(7), 50);
        mixed.index("14 valueOf, revision", NO_REVISIONS, (x, revision) -> x.valueOf(revision));
        inside("16 has, revision 0", x -> bit(x.has(0, 0)), 1);
        inside("16 has, the last one", x -> bit(x.has(2, 7)), 1);
        mixed.index("16 has, revision", NO_REVISIONS, (x, revision) -> bit(x.has(0, revision)));
        inside("17 isLeaf, revision 0", x -> bit(x.isLeaf(0, 0)), 0);
        inside("17 isLeaf, the last one", x -> bit(x.isLeaf(2, 7)), 1);
        mixed.index("17 isLeaf, revision", NO_REVISIONS, (x, revision) -> bit(x.isLeaf(0, revision)));
    }

    // Promise 1, "No revisions": not even the number 0 is one.
    private static void revisionsOfNewObject() {
        int[] none = {0, -1, 149, 150, LOWEST, HIGHEST};
        int[] noneToEdit = {0, -2, 149, 150, LOWEST, HIGHEST};
        blank.index("2 edit, revision", noneToEdit, (x, revision) -> x.edit(0, 0, revision, 1));
        blank.index("3 delete, revision", none, (x, revision) -> x.delete(0, 0, revision));
        blank.index("10 documentOf, revision", none, (x, revision) -> x.documentOf(revision));
        blank.index("11 parentOf, revision", none, (x, revision) -> x.parentOf(revision));
        blank.index("12 generation, revision", none, (x, revision) -> x.generation(revision));
        blank.index("13 sum, revision", none, (x, revision) -> x.sum(revision));
        blank.index("14 valueOf, revision", none, (x, revision) -> x.valueOf(revision));
        blank.index("16 has, revision", none, (x, revision) -> bit(x.has(0, revision)));
        blank.index("17 isLeaf, revision", none, (x, revision) -> bit(x.isLeaf(0, revision)));
    }

    // Promise 2: "value: 0 to 99"; "IllegalArgumentException if value is out of range".
    private static void values() {
        inside("2 edit with 0", x -> x.edit(0, 0, 2, 0), 8);
        inside("2 edit with 0, its value", x -> x.edit(0, 0, 2, 0) + x.valueOf(8), 8 + 0);
        inside("2 edit with 99", x -> x.edit(0, 0, 2, 99), 8);
        inside("2 edit with 99, its value", x -> x.edit(0, 0, 2, 99) + x.valueOf(8), 8 + 99);
        inside("2 begin with 0", x -> x.edit(0, 3, -1, 0), 8);
        inside("2 begin with 99", x -> x.edit(0, 3, -1, 99), 8);
        int[] none = {-1, 100, LOWEST, HIGHEST};
        mixed.argument("2 edit, value", none, (x, value) -> x.edit(0, 0, 2, value));
        mixed.argument("2 edit to begin, value", none, (x, value) -> x.edit(0, 3, -1, value));
        blank.argument("2 edit to begin, value", none, (x, value) -> x.edit(0, 0, -1, value));
    }

    // Promise 4: "depth: 1 to 20"; "IllegalArgumentException if depth is out of range".
    private static void depths() {
        inside("4 setDepth to 1", x -> x.setDepth(0, 1), 3);
        inside("4 setDepth to 20", x -> x.setDepth(0, 20), 0);
        int[] none = {0, -1, 21, LOWEST, HIGHEST};
        mixed.argument("4 setDepth, depth", none, (x, depth) -> x.setDepth(0, depth));
        mixed.argument("4 setDepth of a store with another one, depth", none, (x, depth) -> x.setDepth(1, depth));
        blank.argument("4 setDepth, depth", none, (x, depth) -> x.setDepth(2, depth));
    }

    // Promise 6: "limit: 1 to 4"; "IllegalArgumentException if limit is out of range".
    private static void limits() {
        inside("6 replicate with the limit 1", x -> x.replicate(0, 2, 1), 3);
        inside("6 replicate with the limit 4", x -> x.replicate(0, 2, 4), 7);
        int[] none = {0, -1, 5, LOWEST, HIGHEST};
        mixed.argument("6 replicate, limit", none, (x, limit) -> x.replicate(0, 2, limit));
        mixed.argument("6 replicate on from a checkpoint, limit", none, (x, limit) -> x.replicate(0, 1, limit));
        blank.argument("6 replicate, limit", none, (x, limit) -> x.replicate(0, 1, limit));
    }

    /** Promise 22 asked of the values 0, 50, 50 and 99. */
    private static void counted(int low, int high, int want) {
        check.due("22 count of 0, 50, 50, 99 from " + low + " to " + high,
                Situations.shown().count(2, low, high), want);
    }

    // Promise 22: "low: any number", "high: any number", "a value from a lowest to a highest one".
    private static void lowsAndHighs() {
        counted(LOWEST, HIGHEST, 4);
        counted(0, 99, 4);
        counted(1, 99, 3);
        counted(0, 98, 3);
        counted(1, 98, 2);
        counted(50, 50, 2);
        counted(51, 98, 0);
        counted(1, 49, 0);
        counted(49, 51, 2);
        counted(51, 49, 0);
        counted(99, 0, 0);
        counted(LOWEST, -1, 0);
        counted(LOWEST, 0, 1);
        counted(LOWEST, LOWEST, 0);
        counted(-1, -1, 0);
        counted(0, 0, 1);
        counted(99, 99, 1);
        counted(99, HIGHEST, 1);
        counted(100, HIGHEST, 0);
        counted(HIGHEST, HIGHEST, 0);
        counted(HIGHEST, LOWEST, 0);
        counted(0, LOWEST, 0);
        counted(HIGHEST, 99, 0);
    }

    // Promise 23: "0 for the first one"; "IndexOutOfBoundsException if there is .. not so many documents".
    private static void places() {
        int[] byPlace = {1, 0, 3, 2};
        for (int place = 0; place < 4; place++) {
            check.due("23 of 50, 0, 99, 50 at " + place, Situations.shown().viewAt(2, place), byPlace[place]);
        }
        shown.index("23 viewAt of four, place", new int[] {-1, 4, LOWEST, HIGHEST}, (x, place) -> x.viewAt(2, place));
        inside("23 viewAt of two, the first", x -> x.viewAt(0, 0), 0);
        inside("23 viewAt of two, the last", x -> x.viewAt(0, 1), 1);
        mixed.index("23 viewAt of two, place", new int[] {-1, 2, 3, 4}, (x, place) -> x.viewAt(0, place));
        inside("23 viewAt of one", x -> x.viewAt(2, 0), 3);
        mixed.index("23 viewAt of one, place", new int[] {-1, 1, 2, 3}, (x, place) -> x.viewAt(2, place));
        blank.index("23 viewAt of none, place", new int[] {0, -1, 1, LOWEST, HIGHEST},
                (x, place) -> x.viewAt(0, place));
    }
}
