/**
 * What is full: "there are at most 150" revisions, and an object that "is used for at most 512 calls".
 * A call that is refused has to change nothing (see Refusals).
 */
public final class FullTest {
    private static final Check check = new Check("FullTest");

    public static void main(String[] args) {
        lastRevision();
        lastRevisionByDelete();
        oneThatThereIsTakesNoRoom();
        editsRefused();
        deletesRefused();
        otherReasonsAheadOfFull();
        fullThoughNoStoreHasAny();
        answersOfTheLastRevision();
        allElseGoesOn();
        longestChain();
        fullOverAllDocuments();
        lastCall();
        check.end();
    }

    // "Revisions are numbered from 0 on ..; there are at most 150": the last one is 149.
    private static void lastRevision() {
        RevisionStores x = Situations.fullBut(1);
        check.due("2 made", x.revisions(), 149);
        check.due("2 the last one", x.edit(0, 0, 148, 7), 149);
        check.due("2 made then", x.revisions(), 150);
        check.noState("2 one more", () -> x.edit(0, 0, 149, 7));
        check.due("2 made still", x.revisions(), 150);
        RevisionStores y = Situations.fullBut(1);
        check.due("2 the last one begins a document", y.edit(2, 3, -1, 0), 149);
        check.noState("2 no other document begins", () -> y.edit(2, 2, -1, 0));
    }

    private static void lastRevisionByDelete() {
        RevisionStores x = Situations.fullBut(1);
        check.due("3 the last one", x.delete(0, 0, 148), 149);
        check.due("3 made", x.revisions(), 150);
        check.due("14 a deletion", x.valueOf(149), -1);
        check.noState("3 one more", () -> x.delete(0, 1, 1));
        check.noState("2 one more", () -> x.edit(0, 0, 149, 7));
    }

    // "it is that one": with 149 revisions one that there is can be got, and leaves the room for the last one.
    private static void oneThatThereIsTakesNoRoom() {
        RevisionStores x = Situations.fullBut(1);
        check.due("2 an edit that there is", x.edit(1, 1, 0, 6), 1);
        check.due("2 a beginning that there is", x.edit(1, 0, -1, 0), 3);
        x.wipe(1);
        check.due("2 again", x.edit(1, 1, -1, 5), 0);
        check.due("3 a deletion that there is", x.delete(1, 1, 0), 2);
        check.due("9 made", x.revisions(), 149);
        check.due("2 a new one has room", x.edit(1, 1, 2, 6), 149);
        check.due("9 made then", x.revisions(), 150);
    }

    // Promise 2: "IllegalStateException if .. there are 150 revisions (also if the revision would be one that there
    // is)".
    private static void editsRefused() {
        Refusals full = new Refusals(check, "full", Situations::full);
        full.state("2 a new one behind the last", x -> x.edit(0, 0, 149, 99));
        full.state("2 a new one behind another leaf", x -> x.edit(1, 1, 0, 7));
        full.state("2 a new one behind a deletion", x -> x.edit(2, 1, 2, 7));
        full.state("2 a new beginning", x -> x.edit(2, 3, -1, 0));
        full.state("2 another beginning than there is", x -> x.edit(2, 0, -1, 1));
        full.state("2 an edit that there is", x -> x.edit(1, 1, 0, 6));
        full.state("2 a beginning that there is", x -> x.edit(2, 0, -1, 0));
    }

    // Promise 3: "IllegalStateException if .. there are 150 revisions (also if the revision would be one that there
    // is)".
    private static void deletesRefused() {
        Refusals full = new Refusals(check, "full", Situations::full);
        full.state("3 of the last one", x -> x.delete(0, 0, 149));
        full.state("3 of another leaf", x -> x.delete(0, 1, 1));
        full.state("3 a deletion that there is", x -> x.delete(1, 1, 0));
    }

    // "the one that is named first in the throws clause is thrown", also when there are 150 revisions.
    private static void otherReasonsAheadOfFull() {
        Refusals full = new Refusals(check, "full", Situations::full);
        full.index("2 store 3", x -> x.edit(3, 0, 149, 1));
        full.index("2 document 4", x -> x.edit(0, 4, 149, 1));
        full.index("2 revision 150", x -> x.edit(0, 0, 150, 1));
        full.index("2 revision -2", x -> x.edit(0, 0, -2, 1));
        full.argument("2 value 100", x -> x.edit(0, 0, 149, 100));
        full.argument("2 value -1 to begin", x -> x.edit(2, 3, -1, -1));
        full.index("2 revision 150 and value 100", x -> x.edit(0, 0, 150, 100));
        full.state("2 no leaf", x -> x.edit(0, 0, 148, 1));
        full.state("2 begun", x -> x.edit(0, 0, -1, 0));
        full.index("3 store -1", x -> x.delete(-1, 0, 149));
        full.index("3 document -1", x -> x.delete(0, -1, 149));
        full.index("3 revision 150", x -> x.delete(0, 0, 150));
        full.state("3 a deletion", x -> x.delete(2, 1, 2));
        full.argument("4 depth 21", x -> x.setDepth(0, 21));
        full.argument("6 limit 5", x -> x.replicate(0, 1, 5));
    }

    // The 150 are those that were made, "over all documents", whether or not a store has them.
    private static void fullThoughNoStoreHasAny() {
        Refusals wiped = new Refusals(check, "full, all wiped", () -> {
            RevisionStores x = Situations.full();
            x.wipe(0);
            x.wipe(1);
            x.wipe(2);
            return x;
        });
        wiped.state("2 a new beginning", x -> x.edit(0, 3, -1, 0));
        wiped.state("2 a beginning that there is", x -> x.edit(0, 0, -1, 0));
    }

    // Promises 10 to 17 at the last revision that there can be, and behind it.
    private static void answersOfTheLastRevision() {
        RevisionStores x = Situations.full();
        check.due("9 made", x.revisions(), 150);
        check.due("10 its document", x.documentOf(149), 0);
        check.due("11 its parent", x.parentOf(149), 148);
        check.due("12 its generation", x.generation(149), 147);
        check.due("14 its value", x.valueOf(149), 46);
        check.due("16 has", x.has(0, 149), true);
        check.due("16 has not", x.has(1, 149), false);
        check.due("17 a leaf", x.isLeaf(0, 149), true);
        check.due("17 no leaf", x.isLeaf(0, 148), false);
        check.due("19 the winner", x.winner(0, 0), 149);
        check.due("20 of all", x.winnerOfAll(0), 149);
        check.noIndex("10 of 150", () -> x.documentOf(150));
        check.noIndex("11 of 150", () -> x.parentOf(150));
        check.noIndex("12 of 150", () -> x.generation(150));
        check.noIndex("13 of 150", () -> x.sum(150));
        check.noIndex("14 of 150", () -> x.valueOf(150));
        check.noIndex("16 of 150", () -> x.has(0, 150) ? 1 : 0);
        check.noIndex("17 of 150", () -> x.isLeaf(0, 150) ? 1 : 0);
    }

    // Only edits and deletions make revisions: the other calls go on with 150 of them.
    private static void allElseGoesOn() {
        RevisionStores x = Situations.full();
        check.due("7 two documents are pending", x.pending(0, 2), 2);
        check.due("6 the chain of twenty and one edit", x.replicate(0, 2, 4), 20 + 1);
        check.due("6 back, with the deletion", x.replicate(2, 0, 4), 1);
        check.due("19 the same winner", x.winner(0, 1), x.winner(2, 1));
        check.due("4 stemmed", x.setDepth(2, 1), 19 + 1);
        check.due("5 wiped", x.wipe(2), 3);
        check.due("6 comes again", x.replicate(0, 2, 4), 20 + 3);
        check.due("18 less what is stemmed", x.size(2), 3);
        check.due("9 made", x.revisions(), 150);
    }

    // "Its generation is 1 without a parent, and otherwise that of its parent and 1", and its sum, 150 times.
    private static void longestChain() {
        RevisionStores x = new RevisionStores();
        int leaf = -1;
        int sum = 1;
        for (int made = 0; made < 150; made++) {
            int value = 99 - made % 100;
            leaf = x.edit(0, 0, leaf, value);
            sum = (31 * sum + 7 * value + made + 1) % 997;
            check.due("13 sum of " + made, x.sum(made), sum);
        }
        check.due("12 the first generation", x.generation(0), 1);
        check.due("12 the last generation", x.generation(149), 150);
        check.due("15 the highest sequence", x.sequence(0), 150);
        check.due("18 as deep as the depth", x.size(0), 20);
        check.due("4 nineteen more", x.setDepth(0, 1), 19);
        check.due("6 one goes over", x.replicate(0, 1, 1), 1);
        check.due("8 with the checkpoint", x.checkpoint(0, 1), 150);
        check.due("6 to a store without its ancestors", x.winner(1, 0), 149);
        check.due("17 where it is a leaf", x.isLeaf(1, 149), true);
    }

    // "at most 150", "over all documents": by turns at all stores and documents.
    private static void fullOverAllDocuments() {
        RevisionStores x = new RevisionStores();
        int[] leaves = new int[12];
        for (int made = 0; made < 150; made++) {
            int turn = made % 12;
            int leaf = made < 12 ? -1 : leaves[turn];
            leaves[turn] = x.edit(turn % 3, turn % 4, leaf, made % 100);
            check.due("2 numbered by order", leaves[turn], made);
        }
        for (int turn = 0; turn < 12; turn++) {
            int at = turn;
            check.noState("2 full for " + turn, () -> x.edit(at % 3, at % 4, leaves[at], 1));
            check.noState("3 full for " + turn, () -> x.delete(at % 3, at % 4, leaves[at]));
        }
    }

    // "An object is used for at most 512 calls after it has been made": the 512th is answered as any other.
    private static void lastCall() {
        RevisionStores x = Situations.full();
        for (int made = 152; made < 511; made++) {
            x.replicate(made % 3, (made + 1) % 3, 1 + made % 4);
        }
        check.due("18 the 512th call", x.size(1), 20 + 3);
    }
}
