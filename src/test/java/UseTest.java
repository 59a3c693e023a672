import java.util.ArrayList;
import java.util.List;

/** The use as README.md tells it: its example, asking that changes nothing, and objects beside one another. */
public final class UseTest {
    private static final int LOWEST = Integer.MIN_VALUE;
    private static final int HIGHEST = Integer.MAX_VALUE;

    private static final Check check = new Check("UseTest");

    public static void main(String[] args) {
        exampleOfReadme();
        askingChangesNothing("new object", RevisionStores::new);
        askingChangesNothing("mixed", Situations::mixed);
        askingChangesNothing("wiped", Situations::wiped);
        askingChangesNothing("shown", Situations::shown);
        askingChangesNothing("full", Situations::full);
        objectsBesideOneAnother();
        check.end();
    }

    private static void exampleOfReadme() {
        RevisionStores stores = new RevisionStores();
        int first = stores.edit(0, 2, -1, 40);
        check.due("README replicate", stores.replicate(0, 1, 4), 1);
        int mine = stores.edit(0, 2, first, 41);
        int yours = stores.edit(1, 2, first, 42);
        check.due("README numbers", first * 100 + mine * 10 + yours, 12);
        check.due("README there", stores.replicate(0, 1, 4), 1);
        check.due("README back", stores.replicate(1, 0, 4), 1);
        int winner = stores.winner(0, 2);
        check.due("README the same winner at both stores", stores.winner(1, 2), winner);
        check.due("README the winner is one of both", winner == mine || winner == yours, true);
        check.due("README the other branch", stores.conflicts(0, 2), 1);
        check.due("README the document with the lowest value", stores.viewAt(0, 0), 2);
        check.noArgument("README no such value", () -> stores.edit(0, 2, winner, 100));
    }

    /** A kind of asking, with its numbers; the answers are put together, so as to compare them. */
    private interface Asking {
        String of(RevisionStores x);
    }

    // "nothing from here on changes anything", and the document tells no change for pending and checkpoint either.
    private static void askingChangesNothing(String situation, Refusals.Making making) {
        List<Look.Way> ways = Look.ways();
        for (Look.Way way : ways) {
            String untouched = way.at(making.make());
            List<Asking> askings = askings();
            for (int kind = 0; kind < askings.size(); kind++) {
                RevisionStores x = making.make();
                String first = askings.get(kind).of(x);
                check.due(situation + ": asked again, kind " + kind, askings.get(kind).of(x), first);
                check.due(situation + ": after asking, kind " + kind, way.at(x), untouched);
            }
        }
    }

    private static List<Asking> askings() {
        return List.of(UseTest::ofReplication, UseTest::ofRevisions, UseTest::ofStores, UseTest::ofHeldOnes,
                UseTest::ofLeaves, UseTest::ofDocuments, UseTest::ofView);
    }

    private static String ofReplication(RevisionStores x) {
        List<Integer> seen = new ArrayList<>();
        for (int from = 0; from < 3; from++) {
            for (int further = 1; further <= 2; further++) {
                seen.add(x.pending(from, (from + further) % 3));
                seen.add(x.checkpoint(from, (from + further) % 3));
            }
        }
        return seen.toString();
    }

    private static String ofRevisions(RevisionStores x) {
        List<Integer> seen = new ArrayList<>();
        int made = x.revisions();
        for (int revision : new int[] {0, made / 2, made - 1}) {
            if (revision >= 0 && revision < made) {
                seen.add(x.documentOf(revision));
                seen.add(x.parentOf(revision));
                seen.add(x.generation(revision));
                seen.add(x.sum(revision));
                seen.add(x.valueOf(revision));
            }
        }
        return seen.toString();
    }

    private static String ofStores(RevisionStores x) {
        List<Integer> seen = new ArrayList<>();
        for (int store = 0; store < 3; store++) {
            seen.add(x.sequence(store));
            seen.add(x.size(store));
        }
        return seen.toString();
    }

    private static String ofHeldOnes(RevisionStores x) {
        List<Boolean> seen = new ArrayList<>();
        for (int revision : Look.someRevisions(x.revisions())) {
            for (int store = 0; store < 3; store++) {
                seen.add(x.has(store, revision));
            }
        }
        return seen.toString();
    }

    private static String ofLeaves(RevisionStores x) {
        List<Boolean> seen = new ArrayList<>();
        for (int revision : Look.someRevisions(x.revisions())) {
            for (int store = 0; store < 3; store++) {
                seen.add(x.isLeaf(store, revision));
            }
        }
        return seen.toString();
    }

    private static String ofDocuments(RevisionStores x) {
        List<Integer> seen = new ArrayList<>();
        for (int document = 0; document < 4; document++) {
            seen.add(x.winnerOfAll(document));
            for (int store = 0; store < 3; store++) {
                seen.add(x.winner(store, document));
                seen.add(x.conflicts(store, document));
            }
        }
        return seen.toString();
    }

    private static String ofView(RevisionStores x) {
        List<Integer> seen = new ArrayList<>();
        for (int store = 0; store < 3; store++) {
            int shown = x.count(store, LOWEST, HIGHEST);
            seen.add(x.count(store, 50, 99));
            for (int place = 0; place < shown; place++) {
                seen.add(x.viewAt(store, place));
            }
        }
        return seen.toString();
    }

    // Promise 1: "No revisions", and no depths or checkpoints, of another object that is in use already.
    private static void objectsBesideOneAnother() {
        String blank = Look.asked(new RevisionStores());
        RevisionStores one = Situations.mixed();
        String mixed = Look.asked(Situations.mixed());
        check.due("1 a new object beside another one", Look.asked(new RevisionStores()), blank);
        RevisionStores other = new RevisionStores();
        check.due("1 its numbers begin at 0", other.edit(2, 3, -1, 7), 0);
        other.wipe(0);
        other.setDepth(1, 1);
        other.replicate(2, 0, 4);
        check.due("1 the first one stays", Look.asked(one), mixed);
        check.due("1 the depth of store 1 is its own", Look.depth(new RevisionStores(), 1),
                "depth of store 1: 0 0 leave 0, of 21 edits 20");
    }
}
