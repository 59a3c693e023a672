/** The edges of sequences, checkpoints, limits, what is given over, and of the winners that agree at last. */
public final class ReplicationTest {
    private static final Check check = new Check("ReplicationTest");

    public static void main(String[] args) {
        sequenceRisesByWhatIsGot();
        sequenceStays();
        limitsAndPending();
        greaterSequencesOnly();
        risingSequences();
        lowerOfTwoNumbers();
        checkpointsOfEachWay();
        leafThatItHas();
        leafThatItHasADescendantOf();
        leafBehindWhatItHas();
        ancestorsThatTheFirstStoreHas();
        ancestorsBeyondAGap();
        sharedAncestors();
        sameWinners();
        sameWinnersByBrokenOffOnes();
        sameWinnersOfEmptyStores();
        check.end();
    }

    // "When it gets a revision by an edit or a deletion that it did not have, or gets revisions of a document by
    // replication, its sequence becomes 1 more".
    private static void sequenceRisesByWhatIsGot() {
        RevisionStores x = new RevisionStores();
        check.due("15 at first", x.sequence(0), 0);
        x.edit(0, 0, -1, 1);
        check.due("15 an edit", x.sequence(0), 1);
        x.delete(0, 0, 0);
        check.due("15 a deletion", x.sequence(0), 2);
        x.edit(0, 1, -1, 1);
        check.due("15 another document", x.sequence(0), 3);
        x.edit(1, 0, -1, 1);
        check.due("15 a revision that there is, new to the store", x.sequence(1), 1);
        x.delete(1, 0, 0);
        check.due("15 a deletion that there is, new to the store", x.sequence(1), 2);
        x.replicate(0, 2, 4);
        check.due("15 once for each document, with two and with one", x.sequence(2), 2);
        x.replicate(0, 1, 4);
        check.due("15 only for the document that is news", x.sequence(1), 3);
    }

    // What gives a store no revisions leaves its sequence as it is.
    private static void sequenceStays() {
        RevisionStores x = new RevisionStores();
        Situations.chain(x, 0, 0, 3);
        x.replicate(0, 1, 4);
        check.due("15 the giver", x.sequence(0), 3);
        x.replicate(0, 1, 4);
        x.replicate(1, 0, 4);
        x.replicate(2, 0, 4);
        check.due("15 nothing is given", x.sequence(0), 3);
        check.due("15 nor to the other", x.sequence(1), 1);
        x.setDepth(0, 1);
        check.due("15 stemming", x.sequence(0), 3);
        check.noState("2 refused", () -> x.edit(0, 0, 0, 1));
        check.noState("3 refused", () -> x.delete(0, 0, 1));
        check.noArgument("6 refused", () -> x.replicate(1, 0, 5));
        check.due("15 refused", x.sequence(0), 3);
        x.wipe(1);
        check.due("15 another one's wipe", x.sequence(0), 3);
        check.due("15 a wipe", x.sequence(1), 0);
        x.edit(1, 0, -1, 1);
        check.due("15 from 0 on", x.sequence(1), 1);
    }

    // "as many as the limit tells at most"; "the sequence of the last document that was gone through, or the
    // sequence of the first store, if no document is left"; promise 7: "without a limit".
    private static void limitsAndPending() {
        for (int documents = 0; documents <= 4; documents++) {
            for (int limit = 1; limit <= 4; limit++) {
                limitOf(documents, limit);
            }
        }
    }

    private static void limitOf(int documents, int limit) {
        RevisionStores x = new RevisionStores();
        for (int document = 0; document < documents; document++) {
            Situations.chain(x, 0, document, 2);
        }
        String of = " of " + documents + " with the limit " + limit;
        int through = Math.min(documents, limit);
        check.due("7 pending" + of, x.pending(0, 1), documents);
        check.due("6 two of each" + of, x.replicate(0, 1, limit), 2 * through);
        check.due("8 the last one's sequence" + of, x.checkpoint(0, 1), 2 * through);
        check.due("7 pending then" + of, x.pending(0, 1), documents - through);
        check.due("15 one for each" + of, x.sequence(1), through);
        check.due("22 shown" + of, x.count(1, 0, 99), through);
        check.due("6 the rest" + of, x.replicate(0, 1, 4), 2 * (documents - through));
        check.due("8 the first store's sequence" + of, x.checkpoint(0, 1), x.sequence(0));
        check.due("7 nothing is left" + of, x.pending(0, 1), 0);
    }

    // "the documents that have a greater sequence": one at the checkpoint has been gone through, one beyond has not.
    private static void greaterSequencesOnly() {
        RevisionStores x = new RevisionStores();
        x.edit(0, 0, -1, 1);
        x.edit(0, 1, -1, 1);
        x.replicate(0, 1, 1);
        check.due("8 at document 0", x.checkpoint(0, 1), 1);
        check.due("7 not document 0 again", x.pending(0, 1), 1);
        x.wipe(2);
        check.due("6 document 1 alone", x.replicate(0, 1, 4), 1);
        x.edit(0, 0, 0, 2);
        check.due("7 document 0 by 1 beyond", x.pending(0, 1), 1);
        check.due("8 the checkpoint waits", x.checkpoint(0, 1), 2);
        check.due("6 and goes over", x.replicate(0, 1, 4), 1);
        check.due("8 by 1 on", x.checkpoint(0, 1), 3);
        check.due("6 no more", x.replicate(0, 1, 1), 0);
        check.due("8 stays there", x.checkpoint(0, 1), 3);
    }

    // "gone through by rising sequences": not by number; a document that changes goes to the end.
    private static void risingSequences() {
        RevisionStores x = new RevisionStores();
        for (int document = 3; document >= 0; document--) {
            x.edit(0, document, -1, document);
        }
        x.edit(0, 2, 1, 9);
        int[] order = {3, 1, 0, 2};
        int[] checkpoints = {1, 3, 4, 5};
        for (int step = 0; step < 4; step++) {
            check.due("19 not yet, step " + step, x.winner(1, order[step]), -1);
            check.due("6 step " + step, x.replicate(0, 1, 1), order[step] == 2 ? 2 : 1);
            check.due("19 there, step " + step, x.winner(1, order[step]), x.winner(0, order[step]));
            check.due("8 step " + step, x.checkpoint(0, 1), checkpoints[step]);
        }
        check.due("7 none is left", x.pending(0, 1), 0);
    }

    // "It begins with the lower one of the two numbers that are kept"; "Then both keep as the checkpoint ..".
    private static void lowerOfTwoNumbers() {
        RevisionStores x = new RevisionStores();
        for (int document = 0; document < 4; document++) {
            x.edit(0, document, -1, document);
        }
        x.replicate(0, 1, 4);
        check.due("8 both keep 4", x.checkpoint(0, 1), 4);
        x.wipe(1);
        check.due("8 the other one keeps 0", x.checkpoint(0, 1), 0);
        x.replicate(0, 1, 3);
        check.due("8 both keep 3, the first one less than before", x.checkpoint(0, 1), 3);
        x.wipe(0);
        check.due("8 the first one keeps 0", x.checkpoint(0, 1), 0);
        x.edit(0, 3, -1, 3);
        x.edit(0, 0, -1, 0);
        check.due("7 both are pending, 1 and 2 being less than 3", x.pending(0, 1), 2);
        check.due("6 document 3 is news", x.replicate(0, 1, 1), 1);
        check.due("8 both keep 1", x.checkpoint(0, 1), 1);
        check.due("6 document 0 is not", x.replicate(0, 1, 1), 0);
        check.due("8 both keep 2", x.checkpoint(0, 1), 2);
    }

    // "Replication from a store to another one has a checkpoint": each of the six ways its own.
    private static void checkpointsOfEachWay() {
        RevisionStores x = new RevisionStores();
        Situations.chain(x, 0, 0, 1);
        Situations.chain(x, 1, 1, 2);
        Situations.chain(x, 2, 2, 3);
        int[][] ways = {{0, 1}, {0, 2}, {1, 0}, {1, 2}, {2, 0}, {2, 1}};
        int[] kept = new int[6];
        for (int way = 0; way < 6; way++) {
            x.replicate(ways[way][0], ways[way][1], 4);
            kept[way] = x.sequence(ways[way][0]);
            for (int other = 0; other < 6; other++) {
                check.due("8 from " + ways[other][0] + " to " + ways[other][1] + " after " + way + " ways",
                        x.checkpoint(ways[other][0], ways[other][1]), kept[other]);
            }
        }
        x.wipe(1);
        int[] left = {0, kept[1], 0, 0, kept[4], 0};
        for (int way = 0; way < 6; way++) {
            check.due("8 after a wipe of 1, from " + ways[way][0] + " to " + ways[way][1],
                    x.checkpoint(ways[way][0], ways[way][1]), left[way]);
        }
    }

    // "all leaves of the first store that it does not have": one that it has brings no ancestors either.
    private static void leafThatItHas() {
        RevisionStores x = new RevisionStores();
        Situations.chain(x, 0, 0, 4);
        x.setDepth(1, 1);
        check.due("6 all, though three are stemmed at once", x.replicate(0, 1, 4), 4);
        x.setDepth(1, 20);
        x.replicate(0, 2, 4);
        check.due("7 the document is pending", x.pending(2, 1), 1);
        check.due("6 it has the leaf", x.replicate(2, 1, 4), 0);
        check.due("18 and the leaf alone", x.size(1), 1);
        check.due("15 no sequence", x.sequence(1), 1);
        check.due("8 gone through all the same", x.checkpoint(2, 1), 1);
    }

    // "and has no descendant of": with a child of the leaf, and with one three generations behind it.
    private static void leafThatItHasADescendantOf() {
        for (int further : new int[] {1, 3}) {
            RevisionStores x = new RevisionStores();
            int leaf = Situations.chain(x, 0, 0, 2);
            x.replicate(0, 1, 4);
            x.setDepth(1, 1);
            for (int step = 0; step < further; step++) {
                leaf = x.edit(1, 0, leaf, 50);
            }
            x.wipe(0);
            Situations.chain(x, 0, 0, 2);
            check.due("18 it has the descendant alone", x.size(1), 1);
            check.due("6 not the leaf again", x.replicate(0, 1, 4), 0);
            check.due("16 it has it not", x.has(1, 1), false);
            check.due("15 no sequence", x.sequence(1), 1 + further);
            check.due("8 gone through all the same", x.checkpoint(0, 1), 2);
            check.due("6 the other way it is news", x.replicate(1, 0, 4), 1);
            check.due("17 and the leaf there", x.isLeaf(0, leaf), true);
        }
    }

    // "that it does not have": what it has of the line is neither got nor counted.
    private static void leafBehindWhatItHas() {
        RevisionStores x = new RevisionStores();
        int leaf = Situations.chain(x, 0, 0, 2);
        x.replicate(0, 1, 4);
        for (int value = 3; value <= 5; value++) {
            leaf = x.edit(0, 0, leaf, value);
        }
        check.due("6 the three that it has not", x.replicate(0, 1, 4), 3);
        check.due("18 all five", x.size(1), 5);
        check.due("15 one sequence", x.sequence(1), 2);
        x.edit(2, 0, -1, 1);
        check.due("6 four behind the beginning", x.replicate(0, 2, 4), 4);
        check.due("17 the beginning is no leaf", x.isLeaf(2, 0), false);
    }

    // "those of its ancestors that the first store has": stemmed ones do not come.
    private static void ancestorsThatTheFirstStoreHas() {
        RevisionStores x = new RevisionStores();
        Situations.chain(x, 0, 0, 5);
        x.setDepth(0, 3);
        check.due("6 the three that there are", x.replicate(0, 1, 4), 3);
        check.due("16 the first of them", x.has(1, 2), true);
        check.due("16 none before it", x.has(1, 1), false);
        RevisionStores y = new RevisionStores();
        Situations.chain(y, 0, 0, 4);
        y.edit(1, 0, -1, 1);
        y.edit(1, 0, 0, 50);
        y.replicate(1, 0, 4);
        y.setDepth(0, 2);
        check.due("16 a gap in the line of 3", y.has(0, 1), false);
        check.due("6 0, 2, 3 and 4", y.replicate(0, 2, 4), 4);
        check.due("16 the ancestor beyond the gap", y.has(2, 0), true);
        check.due("16 the gap does not come", y.has(2, 1), false);
        y.wipe(1);
        y.edit(1, 0, -1, 1);
        y.edit(1, 0, 0, 2);
        check.due("6 where it has the gap: 2, 3 and 4", y.replicate(0, 1, 4), 3);
        check.due("18 all five there", y.size(1), 5);
    }

    // "those of its ancestors that the first store has and it does not have": also one that is behind a gap, and that
    // no other leaf brings.
    private static void ancestorsBeyondAGap() {
        RevisionStores x = new RevisionStores();
        Situations.chain(x, 0, 0, 4);
        x.setDepth(0, 1);
        x.edit(1, 0, -1, 1);
        check.due("6 the leaf 3 alone", x.replicate(0, 1, 4), 1);
        check.due("6 3 and, with a gap of two, 0", x.replicate(1, 2, 4), 2);
        check.due("16 the beginning", x.has(2, 0), true);
        RevisionStores y = new RevisionStores();
        y.edit(1, 0, -1, 1);
        y.edit(1, 0, 0, 50);
        y.setDepth(1, 1);
        y.edit(0, 0, -1, 1);
        y.edit(0, 0, 0, 50);
        check.due("16 the other store has the near leaf 1 alone", y.has(1, 0), false);
        y.setDepth(1, 20);
        y.edit(2, 0, -1, 1);
        y.edit(2, 0, 0, 2);
        y.edit(2, 0, 2, 3);
        y.setDepth(2, 1);
        check.due("6 the far leaf 3 comes to 0 and 1", y.replicate(2, 0, 4), 1);
        check.due("6 and goes on with the 0 behind the gap", y.replicate(0, 1, 4), 2);
        check.due("16 which is there now", y.has(1, 0), true);
        check.due("16 and the gap is not", y.has(1, 2), false);
    }

    // "all leaves .., and with each of them those of its ancestors that .. it does not have": a shared one once.
    private static void sharedAncestors() {
        RevisionStores x = new RevisionStores();
        Situations.chain(x, 0, 0, 3);
        x.replicate(0, 1, 4);
        x.edit(0, 0, 2, 50);
        x.edit(1, 0, 2, 51);
        x.replicate(1, 0, 4);
        check.due("6 three and two leaves", x.replicate(0, 2, 4), 5);
        check.due("18 all of them", x.size(2), 5);
        check.due("21 both leaves", x.conflicts(2, 0), 1);
        check.due("15 one sequence for the document", x.sequence(2), 1);
    }

    private static void replicateAllWays(RevisionStores x, int one, int other) {
        x.replicate(one, other, 4);
        x.replicate(other, one, 4);
    }

    private static void dueSameWinners(String when, RevisionStores x, int one, int other) {
        for (int document = 0; document < 4; document++) {
            check.due("the same winner of " + document + ", " + when,
                    x.winner(one, document), x.winner(other, document));
        }
    }

    // "Two stores that have replicated both ways have the same winners": whatever their depths, gone ones too.
    private static void sameWinners() {
        for (int depth : new int[] {1, 2, 20}) {
            RevisionStores x = Situations.mixed();
            x.setDepth(2, depth);
            x.edit(1, 0, 1, 77);
            x.delete(1, 1, 4);
            x.edit(0, 1, 4, 3);
            x.edit(2, 2, -1, 0);
            replicateAllWays(x, 0, 1);
            dueSameWinners("stores 0 and 1", x, 0, 1);
            replicateAllWays(x, 1, 2);
            dueSameWinners("stores 1 and 2, depth " + depth, x, 1, 2);
            replicateAllWays(x, 0, 2);
            dueSameWinners("stores 0 and 2, depth " + depth, x, 0, 2);
            for (int document = 0; document < 4; document++) {
                check.due("20 and that of all", x.winnerOfAll(document), x.winner(0, document));
            }
        }
    }

    // The same where each way is broken off by the limit 1, and one store is wiped in between.
    private static void sameWinnersByBrokenOffOnes() {
        RevisionStores x = Situations.mixed();
        x.replicate(0, 2, 1);
        x.edit(2, 0, 2, 60);
        x.replicate(2, 0, 1);
        x.wipe(2);
        for (int step = 0; step < 4; step++) {
            x.replicate(0, 2, 1);
            x.replicate(2, 0, 1);
        }
        check.due("7 nothing is left", x.pending(0, 2) + x.pending(2, 0), 0);
        dueSameWinners("broken off", x, 0, 2);
        check.due("19 there is one", x.winner(2, 2), 6);
    }

    private static void sameWinnersOfEmptyStores() {
        RevisionStores x = new RevisionStores();
        replicateAllWays(x, 0, 1);
        dueSameWinners("both empty", x, 0, 1);
        Situations.chain(x, 1, 3, 2);
        replicateAllWays(x, 0, 1);
        dueSameWinners("one empty", x, 0, 1);
        check.due("19 the one that there is", x.winner(0, 3), 1);
        x.wipe(1);
        replicateAllWays(x, 0, 1);
        dueSameWinners("one wiped", x, 0, 1);
        check.due("19 it comes back", x.winner(1, 3), 1);
    }
}
