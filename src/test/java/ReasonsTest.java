/**
 * Each reason for each exception by itself, and where two apply at once: "If several exceptions apply, the one that
 * is named first in the throws clause is thrown." Numbers out of range by themselves are in RangesTest, the reason
 * "there are 150 revisions" in FullTest. A call that is refused has to change nothing (see Refusals).
 */
public final class ReasonsTest {
    private static final int LOWEST = Integer.MIN_VALUE;
    private static final int HIGHEST = Integer.MAX_VALUE;

    private static final Check check = new Check("ReasonsTest");
    private static final Refusals mixed = new Refusals(check, "mixed", Situations::mixed);
    private static final Refusals wiped = new Refusals(check, "store 0 wiped", Situations::wiped);
    private static final Refusals blank = new Refusals(check, "new object", RevisionStores::new);

    public static void main(String[] args) {
        editOfNoLeaf();
        editOfAnotherDocument();
        editToBeginAgain();
        deleteOfNoLeaf();
        deleteOfAnotherDocument();
        deleteOfADeletion();
        sameStores();
        editIndexAheadOfArgument();
        editIndexAheadOfState();
        editArgumentAheadOfState();
        deleteIndexAheadOfState();
        setDepthIndexAheadOfArgument();
        replicationIndexAheadOfArgument();
        twoReasonsForOneException();
        refusedOverAndOver();
        check.end();
    }

    // Promise 2: "IllegalStateException if revision is no leaf of the store".
    private static void editOfNoLeaf() {
        mixed.state("2 a revision with descendants", x -> x.edit(0, 0, 0, 1));
        mixed.state("2 a deleted one, ahead of its deletion", x -> x.edit(0, 2, 5, 1));
        mixed.state("2 where it would be the child that there is", x -> x.edit(0, 0, 0, 20));
        mixed.state("2 a leaf of another store", x -> x.edit(2, 0, 1, 1));
        mixed.state("2 a leaf of another store, the store having the document", x -> x.edit(0, 3, 7, 1));
        mixed.state("2 a stemmed one", x -> x.edit(1, 0, 0, 1));
        wiped.state("2 a leaf that was wiped", x -> x.edit(0, 0, 2, 1));
        wiped.state("2 a wiped one that no store has", x -> x.edit(0, 2, 6, 1));
    }

    // Promise 2: "IllegalStateException if revision is .. of another document".
    private static void editOfAnotherDocument() {
        mixed.state("2 a leaf of document 0 for 1", x -> x.edit(0, 1, 1, 1));
        mixed.state("2 a leaf of document 1 for 0", x -> x.edit(0, 0, 4, 1));
        mixed.state("2 a leaf of document 1 for 3, of which there is none", x -> x.edit(0, 3, 4, 1));
        mixed.state("2 a deletion of document 2 for 3", x -> x.edit(0, 3, 6, 1));
    }

    // Promise 2: "IllegalStateException if .. it is -1, and the store has revisions of the document".
    private static void editToBeginAgain() {
        mixed.state("2 begun, with two leaves", x -> x.edit(0, 0, -1, 1));
        mixed.state("2 begun, where it would be the revision that there is", x -> x.edit(0, 0, -1, 10));
        mixed.state("2 begun, with one revision, where it would be that one", x -> x.edit(2, 3, -1, 50));
        mixed.state("2 begun, with the beginning stemmed", x -> x.edit(1, 0, -1, 10));
        mixed.state("2 begun, and gone", x -> x.edit(0, 2, -1, 1));
        RevisionStores x = Situations.mixed();
        check.due("2 another store has the document, this one has not", x.edit(1, 2, -1, 0), 5);
        check.due("2 this store has all others", x.edit(0, 3, -1, 50), 7);
        RevisionStores y = Situations.wiped();
        check.due("2 the store had it and was wiped", y.edit(0, 0, -1, 10), 0);
    }

    // Promise 3: "IllegalStateException if revision is no leaf of the store".
    private static void deleteOfNoLeaf() {
        mixed.state("3 a revision with descendants", x -> x.delete(0, 0, 0));
        mixed.state("3 a deleted one, where it would be the deletion that there is", x -> x.delete(0, 2, 5));
        mixed.state("3 a leaf of another store", x -> x.delete(2, 0, 1));
        mixed.state("3 a stemmed one", x -> x.delete(1, 0, 0));
        wiped.state("3 a leaf that was wiped", x -> x.delete(0, 0, 2));
    }

    // Promise 3: "IllegalStateException if revision is .. of another document".
    private static void deleteOfAnotherDocument() {
        mixed.state("3 a leaf of document 0 for 1", x -> x.delete(0, 1, 1));
        mixed.state("3 a leaf of document 1 for 3, of which there is none", x -> x.delete(0, 3, 4));
    }

    // Promise 3: "IllegalStateException if revision is .. a deletion".
    private static void deleteOfADeletion() {
        mixed.state("3 a deletion that is a leaf", x -> x.delete(0, 2, 6));
        Refusals beside = new Refusals(check, "a deletion beside a leaf", () -> {
            RevisionStores x = Situations.mixed();
            x.delete(0, 0, 1);
            return x;
        });
        beside.state("3 a deletion, the document not being gone", x -> x.delete(0, 0, 8));
    }

    // Promises 6 to 8: "IllegalArgumentException if .. both stores are the same".
    private static void sameStores() {
        for (int store = 0; store < 3; store++) {
            int same = store;
            mixed.argument("6 replicate from and to " + same, x -> x.replicate(same, same, 1));
            mixed.argument("7 pending from and to " + same, x -> x.pending(same, same));
            mixed.argument("8 checkpoint from and to " + same, x -> x.checkpoint(same, same));
            blank.argument("6 replicate from and to " + same, x -> x.replicate(same, same, 4));
            blank.argument("7 pending from and to " + same, x -> x.pending(same, same));
            blank.argument("8 checkpoint from and to " + same, x -> x.checkpoint(same, same));
        }
    }

    // Promise 2, the throws clause: IndexOutOfBoundsException ahead of IllegalArgumentException.
    private static void editIndexAheadOfArgument() {
        for (int value : new int[] {-1, 100, LOWEST, HIGHEST}) {
            mixed.index("2 store 3 and value " + value, x -> x.edit(3, 0, 2, value));
            mixed.index("2 document 4 and value " + value, x -> x.edit(0, 4, 2, value));
            mixed.index("2 revision 8 and value " + value, x -> x.edit(0, 0, 8, value));
            mixed.index("2 revision -2 and value " + value, x -> x.edit(0, 0, -2, value));
            mixed.index("2 store -1, to begin, and value " + value, x -> x.edit(-1, 3, -1, value));
            mixed.index("2 document -1, to begin, and value " + value, x -> x.edit(0, -1, -1, value));
        }
    }

    // Promise 2, the throws clause: IndexOutOfBoundsException ahead of IllegalStateException.
    private static void editIndexAheadOfState() {
        mixed.index("2 store 3 and no leaf of any store", x -> x.edit(3, 2, 5, 1));
        mixed.index("2 store 3 and another document", x -> x.edit(3, 1, 2, 1));
        mixed.index("2 store 3 and begun in all stores", x -> x.edit(3, 0, -1, 1));
        mixed.index("2 document 4 and no leaf", x -> x.edit(0, 4, 0, 1));
        mixed.index("2 document 4 and a leaf, of another document so", x -> x.edit(0, 4, 2, 1));
        mixed.index("2 revision 8, no leaf of course", x -> x.edit(0, 0, 8, 1));
        mixed.index("2 all three", x -> x.edit(3, 0, 0, 100));
        mixed.index("2 all three, by the document", x -> x.edit(0, 4, 0, 100));
    }

    // Promise 2, the throws clause: IllegalArgumentException ahead of IllegalStateException.
    private static void editArgumentAheadOfState() {
        for (int value : new int[] {-1, 100, LOWEST, HIGHEST}) {
            mixed.argument("2 no leaf and value " + value, x -> x.edit(0, 0, 0, value));
            mixed.argument("2 another store's leaf and value " + value, x -> x.edit(2, 0, 1, value));
            mixed.argument("2 another document and value " + value, x -> x.edit(0, 1, 1, value));
            mixed.argument("2 begun and value " + value, x -> x.edit(0, 0, -1, value));
        }
    }

    // Promise 3, the throws clause: IndexOutOfBoundsException ahead of IllegalStateException.
    private static void deleteIndexAheadOfState() {
        mixed.index("3 store 3 and no leaf of any store", x -> x.delete(3, 2, 5));
        mixed.index("3 store -1 and a deletion", x -> x.delete(-1, 2, 6));
        mixed.index("3 document 4 and no leaf", x -> x.delete(0, 4, 0));
        mixed.index("3 document -1 and a deletion", x -> x.delete(0, -1, 6));
        mixed.index("3 revision 8 in a store without the document", x -> x.delete(2, 0, 8));
        mixed.index("3 revision -1 in a store with the document", x -> x.delete(0, 0, -1));
        mixed.index("3 revision -1 in a store without the document", x -> x.delete(2, 0, -1));
    }

    // Promise 4, the throws clause: IndexOutOfBoundsException ahead of IllegalArgumentException.
    private static void setDepthIndexAheadOfArgument() {
        mixed.index("4 store 3 and depth 0", x -> x.setDepth(3, 0));
        mixed.index("4 store -1 and depth 21", x -> x.setDepth(-1, 21));
        mixed.index("4 the lowest numbers", x -> x.setDepth(LOWEST, LOWEST));
        mixed.index("4 the highest numbers", x -> x.setDepth(HIGHEST, HIGHEST));
    }

    // Promises 6 to 8, the throws clauses: IndexOutOfBoundsException ahead of IllegalArgumentException.
    private static void replicationIndexAheadOfArgument() {
        mixed.index("6 from 3 and limit 0", x -> x.replicate(3, 0, 0));
        mixed.index("6 to 3 and limit 5", x -> x.replicate(0, 3, 5));
        mixed.index("6 to -1 and limit -1", x -> x.replicate(0, -1, -1));
        for (int store : new int[] {-1, 3, LOWEST, HIGHEST}) {
            mixed.index("6 replicate from and to " + store, x -> x.replicate(store, store, 1));
            mixed.index("6 replicate with limit 0, from and to " + store, x -> x.replicate(store, store, 0));
            mixed.index("7 pending from and to " + store, x -> x.pending(store, store));
            mixed.index("8 checkpoint from and to " + store, x -> x.checkpoint(store, store));
        }
    }

    // Two reasons that the document gives for the same exception, at once.
    private static void twoReasonsForOneException() {
        mixed.index("2 store 3, document 4 and revision 8", x -> x.edit(3, 4, 8, 1));
        mixed.state("2 no leaf, and of another document", x -> x.edit(0, 1, 0, 1));
        mixed.index("3 store 3, document 4 and revision 8", x -> x.delete(3, 4, 8));
        mixed.state("3 no leaf, and of another document", x -> x.delete(0, 1, 0));
        mixed.state("3 a deletion, and of another document", x -> x.delete(0, 0, 6));
        mixed.state("3 a deletion that the store has not", x -> x.delete(2, 2, 6));
        mixed.argument("6 limit 0 and both stores the same", x -> x.replicate(0, 0, 0));
        mixed.argument("6 limit 5 and both stores the same", x -> x.replicate(2, 2, 5));
        mixed.index("6 from 3 and to -1", x -> x.replicate(3, -1, 1));
        mixed.index("7 from 3 and to -1", x -> x.pending(3, -1));
        mixed.index("8 from 3 and to -1", x -> x.checkpoint(3, -1));
        mixed.index("16 store 3 and revision 8", x -> bit(x.has(3, 8)));
        mixed.index("17 store 3 and revision 8", x -> bit(x.isLeaf(3, 8)));
        mixed.index("19 store 3 and document 4", x -> x.winner(3, 4));
        mixed.index("21 store 3 and document 4", x -> x.conflicts(3, 4));
        mixed.index("23 store 3 and place -1", x -> x.viewAt(3, -1));
    }

    // "A call that throws an exception changes nothing": nor do many of them, and the next good call is as ever.
    private static void refusedOverAndOver() {
        RevisionStores x = Situations.mixed();
        for (int time = 0; time < 50; time++) {
            check.noArgument("2 a value", () -> x.edit(0, 0, 2, 100));
            check.noState("2 no leaf", () -> x.edit(0, 0, 0, 1));
            check.noState("3 a deletion", () -> x.delete(0, 2, 6));
            check.noArgument("6 a limit", () -> x.replicate(0, 1, 5));
        }
        check.due("2 the next edit", x.edit(0, 0, 2, 99), 8);
        check.due("15 its sequence", x.sequence(0), 8);
        // 5 and 6 of document 2; 8 and, stemmed there before, 0 of document 0.
        check.due("6 the next replication", x.replicate(0, 1, 4), 4);
    }

    private static int bit(boolean holds) {
        return holds ? 1 : 0;
    }
}
