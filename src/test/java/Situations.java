/** Objects in known situations, made anew by each call. */
final class Situations {
    private Situations() {
    }

    /** A document's chain at a store, each revision behind the one before, with values from 1 on; its leaf. */
    static int chain(RevisionStores x, int store, int document, int length) {
        int leaf = -1;
        for (int value = 1; value <= length; value++) {
            leaf = x.edit(store, document, leaf, value % 100);
        }
        return leaf;
    }

    /**
     * Eight revisions, 0 to 7.
     * Store 0: 0 with the leaves 1 and 2 (document 0), 3 - 4 (document 1), 5 - 6, a deletion (document 2, gone).
     * Store 1, with the depth 1: the leaves 1 and 2 (document 0), 4 (document 1); 0 and 3 are stemmed.
     * Store 2: 7 (document 3).
     * Replication from 0 to 1 broke off ahead of document 2, that from 1 to 0 went to the end and is behind again.
     */
    static RevisionStores mixed() {
        RevisionStores x = new RevisionStores();
        x.edit(0, 0, -1, 10);
        x.edit(0, 0, 0, 20);
        x.edit(1, 0, -1, 10);
        x.edit(1, 0, 0, 30);
        x.replicate(1, 0, 4);
        x.edit(0, 1, -1, 99);
        x.edit(0, 1, 3, 98);
        x.edit(0, 2, -1, 0);
        x.delete(0, 2, 5);
        x.edit(2, 3, -1, 50);
        x.replicate(0, 1, 2);
        x.setDepth(1, 1);
        return x;
    }

    /** The mixed situation with its store 0 wiped. */
    static RevisionStores wiped() {
        RevisionStores x = mixed();
        x.wipe(0);
        return x;
    }

    /** The values 50, 0, 99 and 50 in documents 0 to 3 of store 2. */
    static RevisionStores shown() {
        RevisionStores x = new RevisionStores();
        x.edit(2, 0, -1, 50);
        x.edit(2, 1, -1, 0);
        x.edit(2, 2, -1, 99);
        x.edit(2, 3, -1, 50);
        return x;
    }

    /**
     * All 150 revisions but some.
     * Document 1: the leaf 0 at store 1, 0 - 1 at store 0, and 0 - 2, a deletion, at store 2.
     * Document 0: a chain at store 0, from 3 on, with the values 0, 1, 2 and so on.
     */
    static RevisionStores fullBut(int some) {
        RevisionStores x = new RevisionStores();
        for (int store = 0; store < 3; store++) {
            x.edit(store, 1, -1, 5);
        }
        x.edit(0, 1, 0, 6);
        x.delete(2, 1, 0);
        int leaf = -1;
        for (int number = 3; number < 150 - some; number++) {
            leaf = x.edit(0, 0, leaf, (number - 3) % 100);
        }
        return x;
    }

    static RevisionStores full() {
        return fullBut(0);
    }
}
