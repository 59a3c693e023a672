import java.util.ArrayList;
import java.util.List;

/**
 * What shows of an object, as texts to compare. Each way of looking is for an object of its own: the ways that
 * show what can't be asked for change it, and all together would be more than the 512 calls that it is good for.
 */
final class Look {
    interface Way {
        String at(RevisionStores x);
    }

    private static final int LOWEST = Integer.MIN_VALUE;
    private static final int HIGHEST = Integer.MAX_VALUE;
    // So many revisions from either end: all 150 would be too many calls.
    private static final int ENDS = 8;

    private Look() {
    }

    static List<Way> ways() {
        List<Way> ways = new ArrayList<>();
        ways.add(Look::asked);
        for (int store = 0; store < 3; store++) {
            int one = store;
            ways.add(x -> sequencesOfDocuments(x, one));
            ways.add(x -> depth(x, one));
        }
        return ways;
    }

    /** Everything that the calls tell that change nothing. */
    static String asked(RevisionStores x) {
        StringBuilder seen = new StringBuilder("made ").append(x.revisions());
        for (int revision : someRevisions(x.revisions())) {
            seen.append("; ").append(revision).append(':').append(x.documentOf(revision));
            seen.append(' ').append(x.parentOf(revision)).append(' ').append(x.generation(revision));
            seen.append(' ').append(x.sum(revision)).append(' ').append(x.valueOf(revision));
        }
        for (int store = 0; store < 3; store++) {
            appendStore(seen, x, store);
        }
        seen.append("; of all");
        for (int document = 0; document < 4; document++) {
            seen.append(' ').append(x.winnerOfAll(document));
        }
        return seen.toString();
    }

    static List<Integer> someRevisions(int made) {
        List<Integer> some = new ArrayList<>();
        for (int revision = 0; revision < made; revision++) {
            if (revision < ENDS || revision >= made - ENDS) {
                some.add(revision);
            }
        }
        return some;
    }

    private static void appendStore(StringBuilder seen, RevisionStores x, int store) {
        seen.append("; store ").append(store).append(": sequence ").append(x.sequence(store));
        seen.append(" size ").append(x.size(store)).append(" has");
        for (int revision : someRevisions(x.revisions())) {
            seen.append(' ').append(x.has(store, revision) ? 1 : 0).append(x.isLeaf(store, revision) ? 1 : 0);
        }
        seen.append(" winners");
        for (int document = 0; document < 4; document++) {
            seen.append(' ').append(x.winner(store, document)).append('/').append(x.conflicts(store, document));
        }
        seen.append(" to others");
        for (int to = 0; to < 3; to++) {
            if (to != store) {
                seen.append(' ').append(x.checkpoint(store, to)).append('/').append(x.pending(store, to));
            }
        }
        seen.append(" view of ").append(x.count(store, LOWEST, HIGHEST)).append(':');
        for (int place = 0; place < 4; place++) {
            int at = place;
            seen.append(' ').append(Check.told(() -> x.viewAt(store, at)));
        }
    }

    /** The sequence of each document in a store: a wiped store gets them one by one, by rising sequences. */
    static String sequencesOfDocuments(RevisionStores x, int store) {
        int other = (store + 1) % 3;
        x.wipe(other);
        StringBuilder seen = new StringBuilder("sequences of store ").append(store).append(':');
        for (int document = 0; document < 4; document++) {
            seen.append(' ').append(x.replicate(store, other, 1)).append(" at ").append(x.checkpoint(store, other));
        }
        return seen.toString();
    }

    /** The depth of a store: a chain that is too long for each depth, by replication and by edits. */
    static String depth(RevisionStores x, int store) {
        x.wipe(store);
        StringBuilder seen = new StringBuilder("depth of store ").append(store).append(':');
        seen.append(' ').append(x.replicate((store + 1) % 3, store, 4));
        seen.append(' ').append(x.replicate((store + 2) % 3, store, 4)).append(" leave ").append(x.size(store));
        x.wipe(store);
        if (x.revisions() + 21 <= 150) {
            Situations.chain(x, store, 3, 21);
            seen.append(", of 21 edits ").append(x.size(store));
        }
        return seen.toString();
    }
}
