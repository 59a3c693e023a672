/** The edges of the document's terms: numbers, sums, leaves, the better of two, stemming, and what is asked by them. */
public final class TermsTest {
    private static final Check check = new Check("TermsTest");

    public static void main(String[] args) {
        numbers();
        oneThatThereIs();
        oneThatNoStoreHas();
        sumWithoutParent();
        sumBelowTheModulus();
        sumAtTheModulus();
        sumBeyondTheModulus();
        sumBehindTheLowestAndTheHighest();
        sumOfDeletion();
        valueOfDeletion();
        onlyRevisionIsALeaf();
        leafBeyondAGap();
        leafOfThisStoreOnly();
        betterIsNoDeletion();
        betterByGeneration();
        betterBySum();
        betterBySumBeyondTheModulus();
        betterByNumber();
        betterOfDeletions();
        winnerOfAllIsOfTheUnion();
        stemmedByEachDepth();
        stemmedByEdit();
        stemmedByDelete();
        stemmedByReplication();
        stemmedByEachLeaf();
        stemmedByLeafBeyondAGap();
        leavesAreNotStemmed();
        deeperBringsNothingBack();
        conflictsLessTheWinner();
        viewOfSameValues();
        check.end();
    }

    private static void dueSum(String call, RevisionStores x, int revision, int reckoned, int want) {
        check.due("13 " + call + ", the modulus away", reckoned % 997, want);
        check.due("13 " + call, x.sum(revision), want);
    }

    // "Revisions are numbered from 0 on in the order in which they are first made, over all documents".
    private static void numbers() {
        RevisionStores x = new RevisionStores();
        check.due("2 the first", x.edit(2, 3, -1, 1), 0);
        check.due("2 another store and document", x.edit(0, 0, -1, 1), 1);
        check.due("3 a deletion too", x.delete(2, 3, 0), 2);
        check.due("2 one that there is takes no number", x.edit(1, 0, -1, 1), 1);
        check.noArgument("2 nor does one that is refused", () -> x.edit(1, 0, 1, 100));
        x.replicate(0, 2, 4);
        x.wipe(0);
        check.due("2 nor replication, nor a wipe", x.edit(1, 0, 1, 1), 3);
        check.due("9 made", x.revisions(), 4);
    }

    // "If a revision would be made with the document, the parent, the value and the kind of one that there is".
    private static void oneThatThereIs() {
        RevisionStores x = new RevisionStores();
        x.edit(0, 0, -1, 0);
        x.edit(0, 0, 0, 0);
        check.due("2 all four the same", x.edit(1, 0, -1, 0), 0);
        check.due("2 all four the same behind a parent", x.edit(1, 0, 0, 0), 1);
        check.due("2 another document", x.edit(1, 1, -1, 0), 2);
        check.due("2 another value", x.edit(2, 0, -1, 1), 3);
        check.due("2 another parent", x.edit(2, 0, 3, 0), 4);
        x.wipe(1);
        x.edit(1, 0, -1, 0);
        check.due("3 another kind, with the value 0 too", x.delete(1, 0, 0), 5);
        x.wipe(2);
        x.edit(2, 0, -1, 0);
        check.due("3 the same kind, of a deletion", x.delete(2, 0, 0), 5);
        x.wipe(2);
        x.edit(2, 0, -1, 0);
        check.due("2 the same kind, of none", x.edit(2, 0, 0, 0), 1);
        check.due("9 made", x.revisions(), 6);
    }

    // "of one that there is": stemmed or wiped everywhere it is there all the same.
    private static void oneThatNoStoreHas() {
        RevisionStores x = new RevisionStores();
        x.setDepth(0, 1);
        x.edit(0, 0, -1, 5);
        x.edit(0, 0, 0, 6);
        check.due("16 no store has 0", x.has(0, 0), false);
        check.due("2 it is 0 all the same", x.edit(1, 0, -1, 5), 0);
        x.wipe(0);
        check.due("2 wiped, it is 1 all the same", x.edit(1, 0, 0, 6), 1);
        check.due("9 made", x.revisions(), 2);
    }

    // "31 without one": the sums without a parent stay below the modulus.
    private static void sumWithoutParent() {
        RevisionStores x = new RevisionStores();
        x.edit(0, 0, -1, 0);
        x.edit(0, 1, -1, 99);
        dueSum("the lowest value", x, 0, 31 + 1, 32);
        dueSum("the highest value", x, 1, 31 + 7 * 99 + 1, 725);
    }

    // "modulo 997": up to 996 the sum is what was reckoned.
    private static void sumBelowTheModulus() {
        RevisionStores x = new RevisionStores();
        x.edit(0, 0, -1, 0);
        x.edit(0, 0, 0, 0);
        dueSum("994", x, 1, 31 * 32 + 2, 994);
        x.edit(1, 0, -1, 9);
        x.edit(1, 0, 2, 6);
        dueSum("3 times beyond, 995", x, 3, 31 * (31 + 7 * 9 + 1) + 7 * 6 + 2, 995);
        x.edit(2, 0, -1, 18);
        x.edit(2, 0, 4, 12);
        dueSum("the highest, 996", x, 5, 31 * (31 + 7 * 18 + 1) + 7 * 12 + 2, 996);
    }

    // "modulo 997": 997 is 0, and so is seven times 997.
    private static void sumAtTheModulus() {
        RevisionStores x = new RevisionStores();
        x.edit(0, 0, -1, 0);
        x.delete(0, 0, 0);
        dueSum("997 itself", x, 1, 31 * 32 + 2 + 3, 0);
        x.edit(1, 0, -1, 27);
        x.edit(1, 0, 2, 18);
        dueSum("seven times 997", x, 3, 31 * (31 + 7 * 27 + 1) + 7 * 18 + 2, 0);
    }

    // "modulo 997": just beyond the modulus, and beyond twice the modulus.
    private static void sumBeyondTheModulus() {
        RevisionStores x = new RevisionStores();
        x.edit(0, 0, -1, 0);
        x.edit(0, 0, 0, 1);
        dueSum("1001", x, 1, 31 * 32 + 7 + 2, 4);
        x.edit(1, 0, -1, 4);
        x.edit(1, 0, 2, 19);
        dueSum("twice 997 and 1", x, 3, 31 * (31 + 7 * 4 + 1) + 7 * 19 + 2, 1);
    }

    // "31 * the sum of its parent": a parent with the sum 0 is no missing parent; 996 is the most that it can be.
    private static void sumBehindTheLowestAndTheHighest() {
        RevisionStores x = new RevisionStores();
        x.edit(0, 0, -1, 0);
        x.delete(0, 0, 0);
        x.edit(0, 0, 1, 0);
        dueSum("behind the sum 0", x, 2, 31 * 0 + 3, 3);
        x.edit(1, 0, -1, 18);
        x.edit(1, 0, 3, 12);
        x.edit(1, 0, 4, 99);
        dueSum("behind the sum 996", x, 5, 31 * 996 + 7 * 99 + 3, 665);
        x.edit(2, 0, -1, 18);
        x.edit(2, 0, 3, 12);
        x.delete(2, 0, 4);
        dueSum("a deletion behind the sum 996", x, 6, 31 * 996 + 3 + 3, 31 * 996 % 997 + 6);
    }

    // "and 3 more for a deletion": beside an edit with the value 0, behind the same parent.
    private static void sumOfDeletion() {
        RevisionStores x = new RevisionStores();
        x.edit(0, 0, -1, 1);
        x.edit(0, 0, 0, 0);
        x.edit(1, 0, -1, 1);
        x.delete(1, 0, 0);
        dueSum("an edit with 0", x, 1, 31 * 39 + 2, 214);
        dueSum("a deletion", x, 2, 31 * 39 + 2 + 3, 217);
    }

    // "a deletion has the value 0"; promise 14: "-1 for a deletion".
    private static void valueOfDeletion() {
        RevisionStores x = new RevisionStores();
        x.edit(0, 0, -1, 99);
        x.delete(0, 0, 0);
        x.edit(0, 0, 1, 0);
        check.due("14 ahead of the deletion", x.valueOf(0), 99);
        check.due("14 the deletion", x.valueOf(1), -1);
        check.due("14 behind it, 0", x.valueOf(2), 0);
        check.due("12 the deletion's generation", x.generation(1), 2);
        check.due("12 and behind it", x.generation(2), 3);
        check.due("11 the deletion is a parent", x.parentOf(2), 1);
    }

    // "A leaf of a store is a revision that it has, and of which it has no descendant."
    private static void onlyRevisionIsALeaf() {
        RevisionStores x = new RevisionStores();
        x.edit(0, 0, -1, 1);
        check.due("17 the only one", x.isLeaf(0, 0), true);
        x.edit(0, 0, 0, 1);
        check.due("17 with a child", x.isLeaf(0, 0), false);
        check.due("17 the child", x.isLeaf(0, 1), true);
        x.delete(0, 0, 1);
        check.due("17 deleted", x.isLeaf(0, 1), false);
        check.due("17 the deletion", x.isLeaf(0, 2), true);
    }

    // "it is a descendant of these": also of the ancestors of its parent, where the store has not the parent.
    private static void leafBeyondAGap() {
        RevisionStores x = new RevisionStores();
        Situations.chain(x, 0, 0, 4);
        x.setDepth(0, 1);
        x.edit(1, 0, -1, 1);
        check.due("17 the only one", x.isLeaf(1, 0), true);
        check.due("6 the leaf comes without its line", x.replicate(0, 1, 4), 1);
        check.due("16 the gap", x.has(1, 1) || x.has(1, 2), false);
        check.due("17 three generations ahead", x.isLeaf(1, 0), false);
        check.due("17 the leaf", x.isLeaf(1, 3), true);
        check.due("21 no conflict", x.conflicts(1, 0), 0);
        check.noState("2 no leaf to edit", () -> x.edit(1, 0, 0, 9));
        check.due("4 the gap does not keep it", x.setDepth(1, 3), 1);
    }

    // "of which it has no descendant": what other stores have does not count.
    private static void leafOfThisStoreOnly() {
        RevisionStores x = new RevisionStores();
        x.edit(0, 0, -1, 1);
        x.replicate(0, 1, 4);
        x.edit(1, 0, 0, 2);
        check.due("17 at the store without the child", x.isLeaf(0, 0), true);
        check.due("17 at the store with the child", x.isLeaf(1, 0), false);
        check.due("17 the child where it is not", x.isLeaf(0, 1), false);
        check.due("17 where nothing is", x.isLeaf(2, 0), false);
    }

    /** The better one of two revisions, each made by its own store, as every way to put them together tells it. */
    private static void dueWinner(String call, RevisionStores x, int document, int want) {
        check.due("20 " + call, x.winnerOfAll(document), want);
        x.replicate(0, 1, 4);
        x.replicate(1, 0, 4);
        check.due("19 at store 0 " + call, x.winner(0, document), want);
        check.due("19 at store 1 " + call, x.winner(1, document), want);
    }

    // "the better one is the one that is no deletion, if one of both is": however far the deletion is.
    private static void betterIsNoDeletion() {
        RevisionStores x = new RevisionStores();
        x.edit(0, 0, -1, 0);
        x.edit(1, 0, -1, 99);
        x.edit(1, 0, 1, 99);
        x.delete(1, 0, 2);
        dueWinner("the first generation with the lowest sum", x, 0, 0);
        check.due("22 not gone", x.count(1, 0, 0), 1);
        check.due("21 no conflict with a deletion", x.conflicts(1, 0), 0);
        x.delete(0, 0, 0);
        dueWinner("both are deletions: the greater generation", x, 0, 3);
        check.due("22 gone", x.count(1, 0, 99), 0);
    }

    // "otherwise the one with the greater generation": by 1, against a greater sum and a lower number.
    private static void betterByGeneration() {
        RevisionStores x = new RevisionStores();
        x.edit(0, 0, -1, 99);
        x.edit(1, 0, -1, 0);
        x.edit(1, 0, 1, 1);
        check.due("13 the sum of 0", x.sum(0), 725);
        check.due("13 the sum of 2", x.sum(2), 4);
        dueWinner("the greater generation", x, 0, 2);
        x.edit(0, 0, 0, 1);
        check.due("12 the same generation", x.generation(3), x.generation(2));
        check.due("13 a greater sum", x.sum(3) > x.sum(2), true);
        dueWinner("the same generation: the greater sum", x, 0, 3);
    }

    // "then the one with the greater sum": by 1, against a lower number.
    private static void betterBySum() {
        RevisionStores x = new RevisionStores();
        x.edit(0, 0, -1, 0);
        x.edit(0, 0, 0, 0);
        x.edit(1, 0, -1, 9);
        x.edit(1, 0, 2, 6);
        check.due("13 by 1", x.sum(3) - x.sum(1), 1);
        dueWinner("the greater sum", x, 0, 3);
        RevisionStores y = new RevisionStores();
        y.edit(0, 0, -1, 9);
        y.edit(0, 0, 0, 6);
        y.edit(1, 0, -1, 0);
        y.edit(1, 0, 2, 0);
        check.due("13 by 1, the other way", y.sum(1) - y.sum(3), 1);
        dueWinner("the greater sum, the lower number", y, 0, 1);
    }

    // The sum is "modulo 997": 994 is greater than what is left of 1001, and 996 than what is left of 997.
    private static void betterBySumBeyondTheModulus() {
        RevisionStores x = new RevisionStores();
        x.edit(0, 0, -1, 0);
        x.edit(1, 0, -1, 0);
        x.edit(0, 0, 0, 1);
        x.edit(1, 0, 0, 0);
        dueWinner("994 against 4", x, 0, 2);
        RevisionStores y = new RevisionStores();
        y.edit(0, 0, -1, 27);
        y.edit(0, 0, 0, 18);
        y.edit(1, 0, -1, 18);
        y.edit(1, 0, 2, 12);
        dueWinner("996 against 0", y, 0, 3);
    }

    // "then the one with the lower number": the same generation and the same sum.
    private static void betterByNumber() {
        RevisionStores x = new RevisionStores();
        x.edit(0, 0, -1, 1);
        x.edit(0, 0, 0, 1);
        x.edit(1, 0, -1, 0);
        x.edit(1, 0, 2, 32);
        check.due("13 the same sum", x.sum(1), x.sum(3));
        dueWinner("the lower number", x, 0, 1);
        RevisionStores y = new RevisionStores();
        y.edit(0, 0, -1, 1);
        y.edit(1, 0, -1, 0);
        y.edit(1, 0, 1, 32);
        y.edit(0, 0, 0, 1);
        check.due("13 the same sum, the other way", y.sum(2), y.sum(3));
        dueWinner("the lower number, the other way", y, 0, 2);
    }

    // The same three rules where both are deletions.
    private static void betterOfDeletions() {
        RevisionStores x = new RevisionStores();
        x.edit(0, 0, -1, 0);
        x.delete(0, 0, 0);
        x.edit(1, 0, -1, 1);
        x.delete(1, 0, 2);
        check.due("13 the sums of both", x.sum(1) * 1000 + x.sum(3), 217);
        dueWinner("the greater sum of deletions", x, 0, 3);
        RevisionStores y = new RevisionStores();
        y.edit(0, 0, -1, 1);
        y.edit(0, 0, 0, 1);
        y.edit(1, 0, -1, 0);
        y.edit(1, 0, 2, 32);
        y.delete(1, 0, 3);
        y.delete(0, 0, 1);
        check.due("13 the same sum of deletions", y.sum(4), y.sum(5));
        dueWinner("the lower number of deletions", y, 0, 4);
        check.due("22 gone", y.count(0, 0, 99), 0);
        check.due("21 no conflict of deletions", y.conflicts(0, 0), 0);
    }

    // Promise 20: "in a store that had all revisions that some store has".
    private static void winnerOfAllIsOfTheUnion() {
        RevisionStores x = new RevisionStores();
        x.edit(0, 0, -1, 99);
        x.edit(1, 0, -1, 99);
        x.delete(1, 0, 0);
        x.edit(2, 0, -1, 0);
        check.due("20 the winner of store 0 is no leaf of all", x.winnerOfAll(0), 2);
        x.wipe(2);
        check.due("20 gone in all, though not at store 0", x.winnerOfAll(0), 1);
        check.due("19 at store 0", x.winner(0, 0), 0);
        x.wipe(1);
        check.due("20 what was wiped does not count", x.winnerOfAll(0), 0);
        RevisionStores y = new RevisionStores();
        Situations.chain(y, 0, 0, 3);
        y.setDepth(0, 1);
        y.edit(1, 0, -1, 1);
        check.due("20 beyond a gap in all", y.winnerOfAll(0), 2);
    }

    // "each leaf that is a descendant of it has a generation greater by the depth or more": the depths 1 to 20.
    private static void stemmedByEachDepth() {
        for (int depth = 1; depth <= 20; depth++) {
            RevisionStores x = new RevisionStores();
            Situations.chain(x, 0, 0, 20);
            check.due("4 stemmed of twenty by " + depth, x.setDepth(0, depth), 20 - depth);
            check.due("4 nothing more by the same depth", x.setDepth(0, depth), 0);
            check.due("4 less than the depth, by " + depth, x.has(0, 20 - depth), true);
            if (depth < 20) {
                check.due("4 the depth itself, by " + depth, x.has(0, 19 - depth), false);
                check.due("4 more than the depth, by " + depth, x.has(0, 0), false);
            }
            check.due("18 left by " + depth, x.size(0), depth);
        }
    }

    // "Stemming is done whenever a store gets revisions": an edit.
    private static void stemmedByEdit() {
        for (int depth = 1; depth <= 20; depth++) {
            RevisionStores x = new RevisionStores();
            x.setDepth(0, depth);
            int leaf = Situations.chain(x, 0, 0, depth);
            check.due("2 as many as the depth " + depth, x.size(0), depth);
            x.edit(0, 0, leaf, 99);
            check.due("2 one more than the depth " + depth, x.size(0), depth);
            check.due("2 the first is stemmed", x.has(0, 0), false);
            check.due("2 the second is not", x.has(0, 1), true);
        }
    }

    // "Stemming is done whenever a store gets revisions": a deletion.
    private static void stemmedByDelete() {
        for (int depth = 1; depth <= 20; depth++) {
            RevisionStores x = new RevisionStores();
            x.setDepth(0, depth);
            int leaf = Situations.chain(x, 0, 0, depth);
            x.delete(0, 0, leaf);
            check.due("3 one more than the depth " + depth, x.size(0), depth);
            check.due("3 the first is stemmed", x.has(0, 0), false);
            check.due("3 the second is not", x.has(0, 1), true);
        }
    }

    // "Stemming is done whenever a store gets revisions": replication, by the depth of the store that gets them.
    private static void stemmedByReplication() {
        for (int depth = 1; depth <= 20; depth++) {
            RevisionStores x = new RevisionStores();
            x.setDepth(1, depth);
            Situations.chain(x, 0, 0, 20);
            Situations.chain(x, 0, 1, depth);
            check.due("6 stemmed ones included, by " + depth, x.replicate(0, 1, 4), 20 + depth);
            check.due("18 left by " + depth, x.size(1), depth + depth);
            check.due("18 the first store stays", x.size(0), 20 + depth);
            check.due("16 the first of as many as the depth", x.has(1, 20), true);
        }
    }

    // "each leaf that is a descendant of it": 0 - 1 - 2 - 3 and 0 - 4 - 5; 0 is 3 from the one, 2 from the other.
    private static void stemmedByEachLeaf() {
        for (boolean byEdit : new boolean[] {true, false}) {
            RevisionStores x = new RevisionStores();
            Situations.chain(x, 0, 0, 4);
            x.edit(1, 0, -1, 1);
            x.edit(1, 0, 0, 50);
            x.edit(1, 0, 4, 51);
            x.replicate(1, 0, 4);
            check.due("4 three is far enough for one leaf alone", x.setDepth(0, 3), 0);
            check.due("2 the near leaf goes on", byEdit ? x.edit(0, 0, 5, 52) : x.delete(0, 0, 5), 6);
            check.due("16 now three from both", x.has(0, 0), false);
            check.due("18 the others are nearer", x.size(0), 6);
            check.due("4 two: the second ones of both lines", x.setDepth(0, 2), 2);
            check.due("17 both leaves are left", x.isLeaf(0, 3) && x.isLeaf(0, 6), true);
        }
    }

    // The same where the line to the far leaf has a gap: a descendant is one beyond the gap too.
    private static void stemmedByLeafBeyondAGap() {
        RevisionStores x = new RevisionStores();
        Situations.chain(x, 0, 0, 4);
        x.edit(1, 0, -1, 1);
        x.edit(1, 0, 0, 50);
        x.replicate(1, 0, 4);
        check.due("4 the gap", x.setDepth(0, 2), 1);
        check.due("16 the gap is 1", x.has(0, 1), false);
        check.due("16 the near leaf 4 keeps 0", x.has(0, 0), true);
        check.due("17 which is no leaf", x.isLeaf(0, 0), false);
        x.edit(0, 0, 4, 51);
        check.due("16 now far from both", x.has(0, 0), false);
        check.due("16 and 4 is near", x.has(0, 4), true);
    }

    // "if it has descendants of it there": without them none is stemmed, by the depth 1 either.
    private static void leavesAreNotStemmed() {
        RevisionStores x = new RevisionStores();
        x.setDepth(0, 1);
        x.edit(0, 0, -1, 1);
        x.edit(0, 1, -1, 2);
        check.due("18 the only ones of both documents", x.size(0), 2);
        Situations.chain(x, 1, 0, 5);
        check.due("4 descendants elsewhere do not count", x.setDepth(0, 1), 0);
        check.due("16 it stays", x.has(0, 0), true);
        x.edit(2, 0, -1, 9);
        x.replicate(2, 0, 4);
        check.due("18 nor another leaf of the document", x.size(0), 3);
        x.replicate(1, 0, 4);
        check.due("16 with descendants it goes", x.has(0, 0), false);
        check.due("18 and the leaves stay", x.size(0), 3);
    }

    // Promise 4, "how many revisions are stemmed by that": a greater depth stems none and brings none back.
    private static void deeperBringsNothingBack() {
        RevisionStores x = new RevisionStores();
        int leaf = Situations.chain(x, 0, 0, 6);
        check.due("4 to 2", x.setDepth(0, 2), 4);
        check.due("4 to 20", x.setDepth(0, 20), 0);
        check.due("18 two are left", x.size(0), 2);
        leaf = x.edit(0, 0, leaf, 50);
        check.due("18 and grow again", x.size(0), 3);
        check.due("15 depths are no sequences", x.sequence(0), 7);
    }

    // Promise 21: "less 1 for the winner; 0 if there are none".
    private static void conflictsLessTheWinner() {
        RevisionStores x = new RevisionStores();
        check.due("21 of none", x.conflicts(0, 0), 0);
        x.edit(0, 0, -1, 1);
        check.due("21 of one", x.conflicts(0, 0), 0);
        x.edit(1, 0, -1, 2);
        x.replicate(1, 0, 4);
        check.due("21 of two", x.conflicts(0, 0), 1);
        x.edit(2, 0, -1, 3);
        x.replicate(2, 0, 4);
        check.due("21 of three", x.conflicts(0, 0), 2);
        x.delete(0, 0, 0);
        check.due("21 of two and a deletion", x.conflicts(0, 0), 1);
        x.delete(0, 0, 1);
        check.due("21 of one and two deletions", x.conflicts(0, 0), 0);
        x.delete(0, 0, 2);
        check.due("21 of three deletions", x.conflicts(0, 0), 0);
        check.due("21 of another document", x.conflicts(0, 1), 0);
    }

    // Promise 23: "by rising values of their winners, those with the same value by rising numbers".
    private static void viewOfSameValues() {
        RevisionStores x = new RevisionStores();
        for (int document = 3; document >= 0; document--) {
            x.edit(0, document, -1, 99);
        }
        for (int place = 0; place < 4; place++) {
            check.due("23 all the same, at " + place, x.viewAt(0, place), place);
        }
        x.edit(0, 3, 0, 0);
        check.due("23 the lowest value is first", x.viewAt(0, 0), 3);
        check.due("23 then the lowest number", x.viewAt(0, 1), 0);
        x.delete(0, 0, 3);
        check.due("23 without a gone one", x.viewAt(0, 1), 1);
        check.due("23 up to the last", x.viewAt(0, 2), 2);
        check.noIndex("23 and no further", () -> x.viewAt(0, 3));
    }
}
