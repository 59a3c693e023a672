import java.util.Arrays;

/** Stores of documents that replicate; the project's document tells what each call answers. */
public final class RevisionStores {
    private static final int STORES = 3;
    private static final int DOCUMENTS = 4;
    private static final int MOST_REVISIONS = 150;
    private static final int MOST_VALUE = 99;
    private static final int MOST_DEPTH = 20;
    private static final int MOST_LIMIT = 4;
    private static final int NONE = -1;

    private final Tree tree = new Tree();
    private final Store[] stores = new Store[STORES];
    // Used by winnerOfAll alone, and kept so that its calls make no objects.
    private final Holding union = new Holding();

    public RevisionStores() {
        for (int store = 0; store < STORES; store++) {
            stores[store] = new Store();
        }
    }

    // ---- edits

    public int edit(int store, int document, int revision, int value)
            throws IndexOutOfBoundsException, IllegalArgumentException, IllegalStateException {
        Store place = storeAt(store);
        checkDocument(document);
        if (revision != NONE) {
            checkRevision(revision);
        }
        if (value < 0 || value > MOST_VALUE) {
            throw new IllegalArgumentException("value is not 0 to 99");
        }
        if (revision == NONE) {
            checkNotBegun(place, document);
        } else {
            checkLeaf(place, document, revision);
        }
        checkRoom();
        return grow(place, document, revision, value, false);
    }

    public int delete(int store, int document, int revision)
            throws IndexOutOfBoundsException, IllegalStateException {
        Store place = storeAt(store);
        checkDocument(document);
        checkRevision(revision);
        checkLeaf(place, document, revision);
        if (tree.deletions[revision]) {
            throw new IllegalStateException("revision is a deletion");
        }
        checkRoom();
        return grow(place, document, revision, 0, true);
    }

    public int setDepth(int store, int depth) throws IndexOutOfBoundsException, IllegalArgumentException {
        Store place = storeAt(store);
        if (depth < 1 || depth > MOST_DEPTH) {
            throw new IllegalArgumentException("depth is not 1 to 20");
        }
        place.depth = depth;
        return place.holding.stem(tree, depth);
    }

    public int wipe(int store) throws IndexOutOfBoundsException {
        Store place = storeAt(store);
        int had = place.holding.countAll(tree);
        place.clear(tree);
        return had;
    }

    // ---- replication

    public int replicate(int from, int to, int limit) throws IndexOutOfBoundsException, IllegalArgumentException {
        Store source = storeAt(from);
        Store target = storeAt(to);
        if (limit < 1 || limit > MOST_LIMIT) {
            throw new IllegalArgumentException("limit is not 1 to 4");
        }
        checkDifferent(from, to);
        int reached = commonCheckpoint(from, to);
        int got = 0;
        for (int gone = 0; gone < limit; gone++) {
            int document = source.nextChanged(reached);
            if (document != NONE) {
                got += target.receive(tree, source.holding, document);
                reached = source.changes[document];
            }
        }
        if (source.nextChanged(reached) == NONE) {
            reached = source.latest;
        }
        source.checkpoints[pairOf(from, to)] = reached;
        target.checkpoints[pairOf(from, to)] = reached;
        return got;
    }

    public int pending(int from, int to) throws IndexOutOfBoundsException, IllegalArgumentException {
        Store source = storeAt(from);
        storeAt(to);
        checkDifferent(from, to);
        return source.countChanged(commonCheckpoint(from, to));
    }

    public int checkpoint(int from, int to) throws IndexOutOfBoundsException, IllegalArgumentException {
        storeAt(from);
        storeAt(to);
        checkDifferent(from, to);
        return commonCheckpoint(from, to);
    }

    // ---- revisions; nothing from here on changes anything

    public int revisions() {
        return tree.made;
    }

    public int documentOf(int revision) throws IndexOutOfBoundsException {
        checkRevision(revision);
        return tree.documents[revision];
    }

    public int parentOf(int revision) throws IndexOutOfBoundsException {
        checkRevision(revision);
        return tree.parents[revision];
    }

    public int generation(int revision) throws IndexOutOfBoundsException {
        checkRevision(revision);
        return tree.generations[revision];
    }

    public int sum(int revision) throws IndexOutOfBoundsException {
        checkRevision(revision);
        return tree.sums[revision];
    }

    public int valueOf(int revision) throws IndexOutOfBoundsException {
        checkRevision(revision);
        return tree.deletions[revision] ? -1 : tree.values[revision];
    }

    // ---- stores

    public int sequence(int store) throws IndexOutOfBoundsException {
        return storeAt(store).latest;
    }

    public boolean has(int store, int revision) throws IndexOutOfBoundsException {
        Store place = storeAt(store);
        checkRevision(revision);
        return place.holding.held[revision];
    }

    public boolean isLeaf(int store, int revision) throws IndexOutOfBoundsException {
        Store place = storeAt(store);
        checkRevision(revision);
        return place.holding.endsAt(revision);
    }

    public int size(int store) throws IndexOutOfBoundsException {
        return storeAt(store).holding.countAll(tree);
    }

    public int winner(int store, int document) throws IndexOutOfBoundsException {
        Store place = storeAt(store);
        checkDocument(document);
        return place.holding.winners[document];
    }

    public int winnerOfAll(int document) throws IndexOutOfBoundsException {
        checkDocument(document);
        union.removeAll();
        for (int store = 0; store < STORES; store++) {
            union.addAll(tree, stores[store].holding);
        }
        union.survey(tree);
        return union.winners[document];
    }

    public int conflicts(int store, int document) throws IndexOutOfBoundsException {
        Store place = storeAt(store);
        checkDocument(document);
        return Math.max(0, place.holding.countLiveLeaves(tree, document) - 1);
    }

    // ---- the view

    public int count(int store, int low, int high) throws IndexOutOfBoundsException {
        Holding holding = storeAt(store).holding;
        int found = 0;
        for (int document = 0; document < DOCUMENTS; document++) {
            int value = holding.shownValue(tree, document);
            if (value != NONE && low <= value && value <= high) {
                found++;
            }
        }
        return found;
    }

    public int viewAt(int store, int place) throws IndexOutOfBoundsException {
        Holding holding = storeAt(store).holding;
        for (int document = 0; document < DOCUMENTS; document++) {
            int value = holding.shownValue(tree, document);
            if (value != NONE && holding.countShownBefore(tree, value, document) == place) {
                return document;
            }
        }
        throw new IndexOutOfBoundsException("no such place");
    }

    // ---- what several calls share

    private Store storeAt(int store) {
        if (store < 0 || store >= STORES) {
            throw new IndexOutOfBoundsException("no such store");
        }
        return stores[store];
    }

    private void checkDocument(int document) {
        if (document < 0 || document >= DOCUMENTS) {
            throw new IndexOutOfBoundsException("no such document");
        }
    }

    private void checkRevision(int revision) {
        if (revision < 0 || revision >= tree.made) {
            throw new IndexOutOfBoundsException("no such revision");
        }
    }

    private void checkDifferent(int from, int to) {
        if (from == to) {
            throw new IllegalArgumentException("both stores are the same");
        }
    }

    private void checkNotBegun(Store place, int document) {
        if (place.holding.winners[document] != NONE) {
            throw new IllegalStateException("the store has revisions of the document");
        }
    }

    private void checkLeaf(Store place, int document, int revision) {
        if (tree.documents[revision] != document || !place.holding.endsAt(revision)) {
            throw new IllegalStateException("revision is no leaf of the document in the store");
        }
    }

    private void checkRoom() {
        if (tree.made >= MOST_REVISIONS) {
            throw new IllegalStateException("there are 150 revisions");
        }
    }

    private int grow(Store place, int document, int parent, int value, boolean deletion) {
        int revision = tree.find(document, parent, value, deletion);
        if (revision == NONE) {
            revision = tree.make(document, parent, value, deletion);
        }
        place.append(tree, revision);
        return revision;
    }

    private int commonCheckpoint(int from, int to) {
        int pair = pairOf(from, to);
        return Math.min(stores[from].checkpoints[pair], stores[to].checkpoints[pair]);
    }

    private static int pairOf(int from, int to) {
        return from * STORES + to;
    }

    /** All revisions that were ever made, by number; a parent's number is lower than its children's. */
    private static final class Tree {
        private static final int SUM_MODULUS = 997;

        private final int[] documents = new int[MOST_REVISIONS];
        private final int[] parents = new int[MOST_REVISIONS];
        private final int[] values = new int[MOST_REVISIONS];
        private final boolean[] deletions = new boolean[MOST_REVISIONS];
        private final int[] generations = new int[MOST_REVISIONS];
        private final int[] sums = new int[MOST_REVISIONS];
        private int made = 0;

        int find(int document, int parent, int value, boolean deletion) {
            for (int revision = 0; revision < made; revision++) {
                if (documents[revision] == document && parents[revision] == parent
                        && values[revision] == value && deletions[revision] == deletion) {
                    return revision;
                }
            }
            return NONE;
        }

        /** Asks for room in the tree, and for a parent that is in it or NONE. */
        int make(int document, int parent, int value, boolean deletion) {
            int revision = made;
            int generation = parent == NONE ? 1 : generations[parent] + 1;
            int inherited = parent == NONE ? 31 : 31 * sums[parent];
            documents[revision] = document;
            parents[revision] = parent;
            values[revision] = value;
            deletions[revision] = deletion;
            generations[revision] = generation;
            sums[revision] = (inherited + 7 * value + generation + (deletion ? 3 : 0)) % SUM_MODULUS;
            made++;
            return revision;
        }

        boolean isBetter(int one, int other) {
            if (deletions[one] != deletions[other]) {
                return deletions[other];
            }
            if (generations[one] != generations[other]) {
                return generations[one] > generations[other];
            }
            if (sums[one] != sums[other]) {
                return sums[one] > sums[other];
            }
            return one < other;
        }
    }

    /** Some of the tree's revisions, with their leaves and the winners among these. */
    private static final class Holding {
        // Above every generation, so that the lowest one is found by min alone.
        private static final int NO_LEAF = MOST_REVISIONS + 1;

        private final boolean[] held = new boolean[MOST_REVISIONS];
        // For each revision, held or not, the lowest generation of the leaves that descend from it.
        private final int[] nearestLeaf = new int[MOST_REVISIONS];
        private final int[] winners = new int[DOCUMENTS];

        Holding() {
            Arrays.fill(nearestLeaf, NO_LEAF);
            Arrays.fill(winners, NONE);
        }

        /** Finds leaves and winners anew; asked for whenever revisions were added or all were removed. */
        void survey(Tree tree) {
            findLeaves(tree);
            findWinners(tree);
        }

        private void findLeaves(Tree tree) {
            Arrays.fill(nearestLeaf, NO_LEAF);
            // Downwards, because so every revision comes after all its descendants.
            for (int revision = tree.made - 1; revision >= 0; revision--) {
                int parent = tree.parents[revision];
                if (parent != NONE) {
                    int nearest = endsAt(revision) ? tree.generations[revision] : nearestLeaf[revision];
                    nearestLeaf[parent] = Math.min(nearestLeaf[parent], nearest);
                }
            }
        }

        private void findWinners(Tree tree) {
            Arrays.fill(winners, NONE);
            for (int revision = 0; revision < tree.made; revision++) {
                if (endsAt(revision)) {
                    int document = tree.documents[revision];
                    int best = winners[document];
                    if (best == NONE || tree.isBetter(revision, best)) {
                        winners[document] = revision;
                    }
                }
            }
        }

        /** Leaves and winners stay as they are, for only what has descendants here is stemmed. */
        int stem(Tree tree, int depth) {
            int stemmed = 0;
            for (int revision = 0; revision < tree.made; revision++) {
                if (held[revision] && hasDescendantOf(revision)
                        && nearestLeaf[revision] - tree.generations[revision] >= depth) {
                    held[revision] = false;
                    stemmed++;
                }
            }
            return stemmed;
        }

        boolean hasDescendantOf(int revision) {
            return nearestLeaf[revision] != NO_LEAF;
        }

        boolean endsAt(int revision) {
            return held[revision] && !hasDescendantOf(revision);
        }

        void removeAll() {
            for (int revision = 0; revision < MOST_REVISIONS; revision++) {
                held[revision] = false;
            }
        }

        void addAll(Tree tree, Holding other) {
            for (int revision = 0; revision < tree.made; revision++) {
                held[revision] = held[revision] || other.held[revision];
            }
        }

        /** Adds the leaves of a document that are news here, and their ancestors; returns how many revisions. */
        int addBranches(Tree tree, Holding other, int document) {
            int added = 0;
            for (int revision = 0; revision < tree.made; revision++) {
                if (tree.documents[revision] == document && other.endsAt(revision)
                        && !held[revision] && !hasDescendantOf(revision)) {
                    added += addLine(tree, other, revision);
                }
            }
            return added;
        }

        /** The line may have gaps in the other holding, and is followed beyond them. */
        private int addLine(Tree tree, Holding other, int leaf) {
            int added = 0;
            int revision = leaf;
            for (int step = 0; step < MOST_REVISIONS && revision != NONE; step++) {
                if (other.held[revision] && !held[revision]) {
                    held[revision] = true;
                    added++;
                }
                revision = tree.parents[revision];
            }
            return added;
        }

        int countAll(Tree tree) {
            int found = 0;
            for (int revision = 0; revision < tree.made; revision++) {
                if (held[revision]) {
                    found++;
                }
            }
            return found;
        }

        int countLiveLeaves(Tree tree, int document) {
            int found = 0;
            for (int revision = 0; revision < tree.made; revision++) {
                if (tree.documents[revision] == document && endsAt(revision) && !tree.deletions[revision]) {
                    found++;
                }
            }
            return found;
        }

        /** The value of a document's winner; NONE if the document is not there or gone. */
        int shownValue(Tree tree, int document) {
            int winner = winners[document];
            return winner == NONE || tree.deletions[winner] ? NONE : tree.values[winner];
        }

        int countShownBefore(Tree tree, int value, int document) {
            int found = 0;
            for (int other = 0; other < DOCUMENTS; other++) {
                int shown = shownValue(tree, other);
                if (shown != NONE && (shown < value || shown == value && other < document)) {
                    found++;
                }
            }
            return found;
        }
    }

    /** A store: what it holds, its sequences, and the checkpoints that it keeps. */
    private static final class Store {
        private final Holding holding = new Holding();
        private int depth = MOST_DEPTH;
        private int latest = 0;
        // The sequence of each document; 0 if the store never got a revision of it since it was wiped.
        private final int[] changes = new int[DOCUMENTS];
        // By the pair of stores that replicate; those without this store stay 0.
        private final int[] checkpoints = new int[STORES * STORES];

        void append(Tree tree, int revision) {
            holding.held[revision] = true;
            noteChange(tree, tree.documents[revision]);
        }

        int receive(Tree tree, Holding other, int document) {
            int got = holding.addBranches(tree, other, document);
            if (got > 0) {
                noteChange(tree, document);
            }
            return got;
        }

        private void noteChange(Tree tree, int document) {
            latest++;
            changes[document] = latest;
            holding.survey(tree);
            holding.stem(tree, depth);
        }

        void clear(Tree tree) {
            holding.removeAll();
            holding.survey(tree);
            latest = 0;
            Arrays.fill(changes, 0);
            Arrays.fill(checkpoints, 0);
        }

        /** The document whose sequence is the next one above a number; NONE if no document has one. */
        int nextChanged(int after) {
            int next = NONE;
            for (int document = 0; document < DOCUMENTS; document++) {
                if (changes[document] > after && (next == NONE || changes[document] < changes[next])) {
                    next = document;
                }
            }
            return next;
        }

        int countChanged(int after) {
            int found = 0;
            for (int document = 0; document < DOCUMENTS; document++) {
                if (changes[document] > after) {
                    found++;
                }
            }
            return found;
        }
    }
}
