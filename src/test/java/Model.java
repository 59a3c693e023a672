import java.util.ArrayList;
import java.util.List;
import java.util.TreeSet;

/** The document's terms, written down as they are said, without a thought of cost: what ModelTest compares with. */
final class Model {
    record Revision(int number, int document, Revision parent, int value, boolean deletion) {
        int generation() {
            return parent == null ? 1 : parent.generation() + 1;
        }

        int sum() {
            int first = parent == null ? 31 : 31 * parent.sum();
            return (first + 7 * value + generation() + (deletion ? 3 : 0)) % 997;
        }

        boolean isAncestorOf(Revision other) {
            Revision up = other.parent;
            while (up != null && up != this) {
                up = up.parent;
            }
            return up != null;
        }

        boolean isBetterThan(Revision other) {
            if (deletion != other.deletion) {
                return !deletion;
            }
            if (generation() != other.generation()) {
                return generation() > other.generation();
            }
            if (sum() != other.sum()) {
                return sum() > other.sum();
            }
            return number < other.number;
        }
    }

    final List<Revision> all = new ArrayList<>();
    final List<TreeSet<Integer>> held = List.of(new TreeSet<>(), new TreeSet<>(), new TreeSet<>());
    final int[] depth = {20, 20, 20};
    final int[] sequence = new int[3];
    final int[][] changed = new int[3][4];
    final int[][][] kept = new int[3][3][3];

    private static void index(boolean holds) {
        if (!holds) {
            throw new IndexOutOfBoundsException();
        }
    }

    private static void argument(boolean holds) {
        if (!holds) {
            throw new IllegalArgumentException();
        }
    }

    private static void state(boolean holds) {
        if (!holds) {
            throw new IllegalStateException();
        }
    }

    private static void store(int store) {
        index(store >= 0 && store <= 2);
    }

    private static void document(int document) {
        index(document >= 0 && document <= 3);
    }

    private Revision revision(int revision) {
        index(revision >= 0 && revision < all.size());
        return all.get(revision);
    }

    // ---- the terms

    List<Revision> of(TreeSet<Integer> some, int document) {
        List<Revision> found = new ArrayList<>();
        for (int number : some) {
            if (all.get(number).document == document) {
                found.add(all.get(number));
            }
        }
        return found;
    }

    static boolean hasDescendant(List<Revision> some, Revision revision) {
        for (Revision other : some) {
            if (revision.isAncestorOf(other)) {
                return true;
            }
        }
        return false;
    }

    static List<Revision> leaves(List<Revision> some) {
        List<Revision> found = new ArrayList<>();
        for (Revision revision : some) {
            if (!hasDescendant(some, revision)) {
                found.add(revision);
            }
        }
        return found;
    }

    static Revision best(List<Revision> some) {
        Revision best = null;
        for (Revision leaf : leaves(some)) {
            if (best == null || leaf.isBetterThan(best)) {
                best = leaf;
            }
        }
        return best;
    }

    private int stem(int store) {
        TreeSet<Integer> gone = new TreeSet<>();
        for (int document = 0; document < 4; document++) {
            List<Revision> some = of(held.get(store), document);
            List<Revision> leaves = leaves(some);
            for (Revision revision : some) {
                boolean old = hasDescendant(some, revision);
                for (Revision leaf : leaves) {
                    if (revision.isAncestorOf(leaf)) {
                        old = old && leaf.generation() >= revision.generation() + depth[store];
                    }
                }
                if (old) {
                    gone.add(revision.number);
                }
            }
        }
        held.get(store).removeAll(gone);
        return gone.size();
    }

    private void moved(int store, int document) {
        sequence[store]++;
        changed[store][document] = sequence[store];
        stem(store);
    }

    private int make(int store, int document, Revision parent, int value, boolean deletion) {
        state(all.size() < 150);
        Revision made = null;
        for (Revision old : all) {
            if (old.document == document && old.parent == parent && old.value == value && old.deletion == deletion) {
                made = old;
            }
        }
        if (made == null) {
            made = new Revision(all.size(), document, parent, value, deletion);
            all.add(made);
        }
        if (held.get(store).add(made.number)) {
            moved(store, document);
        }
        return made.number;
    }

    // ---- edits

    int edit(int store, int document, int revision, int value) {
        store(store);
        document(document);
        Revision parent = revision == -1 ? null : revision(revision);
        argument(value >= 0 && value <= 99);
        List<Revision> some = of(held.get(store), document);
        state(parent == null ? some.isEmpty() : leaves(some).contains(parent));
        return make(store, document, parent, value, false);
    }

    int delete(int store, int document, int revision) {
        store(store);
        document(document);
        Revision parent = revision(revision);
        state(leaves(of(held.get(store), document)).contains(parent) && !parent.deletion);
        return make(store, document, parent, 0, true);
    }

    int setDepth(int store, int to) {
        store(store);
        argument(to >= 1 && to <= 20);
        depth[store] = to;
        return stem(store);
    }

    int wipe(int store) {
        store(store);
        int had = held.get(store).size();
        held.get(store).clear();
        sequence[store] = 0;
        changed[store] = new int[4];
        kept[store] = new int[3][3];
        return had;
    }

    // ---- replication

    private int start(int from, int to) {
        return Math.min(kept[from][from][to], kept[to][from][to]);
    }

    int replicate(int from, int to, int limit) {
        store(from);
        store(to);
        argument(limit >= 1 && limit <= 4 && from != to);
        int start = start(from, to);
        int last = start;
        int through = 0;
        int got = 0;
        boolean left = false;
        for (int at = start + 1; at <= sequence[from]; at++) {
            for (int document = 0; document < 4; document++) {
                if (changed[from][document] == at) {
                    if (through == limit) {
                        left = true;
                    } else {
                        through++;
                        last = at;
                        got += give(from, to, document);
                    }
                }
            }
        }
        kept[from][from][to] = left ? last : sequence[from];
        kept[to][from][to] = kept[from][from][to];
        return got;
    }

    private int give(int from, int to, int document) {
        List<Revision> there = of(held.get(from), document);
        List<Revision> here = of(held.get(to), document);
        TreeSet<Integer> news = new TreeSet<>();
        for (Revision leaf : leaves(there)) {
            if (!here.contains(leaf) && !hasDescendant(here, leaf)) {
                for (Revision other : there) {
                    if ((other == leaf || other.isAncestorOf(leaf)) && !here.contains(other)) {
                        news.add(other.number);
                    }
                }
            }
        }
        held.get(to).addAll(news);
        if (!news.isEmpty()) {
            moved(to, document);
        }
        return news.size();
    }

    int pending(int from, int to) {
        store(from);
        store(to);
        argument(from != to);
        int found = 0;
        for (int at : changed[from]) {
            found += at > start(from, to) ? 1 : 0;
        }
        return found;
    }

    int checkpoint(int from, int to) {
        store(from);
        store(to);
        argument(from != to);
        return start(from, to);
    }

    // ---- revisions

    int revisions() {
        return all.size();
    }

    int documentOf(int revision) {
        return revision(revision).document;
    }

    int parentOf(int revision) {
        Revision parent = revision(revision).parent;
        return parent == null ? -1 : parent.number;
    }

    int generation(int revision) {
        return revision(revision).generation();
    }

    int sum(int revision) {
        return revision(revision).sum();
    }

    int valueOf(int revision) {
        return revision(revision).deletion ? -1 : revision(revision).value;
    }

    // ---- stores

    int sequence(int store) {
        store(store);
        return sequence[store];
    }

    boolean has(int store, int revision) {
        store(store);
        revision(revision);
        return held.get(store).contains(revision);
    }

    boolean isLeaf(int store, int revision) {
        store(store);
        Revision asked = revision(revision);
        return leaves(of(held.get(store), asked.document)).contains(asked);
    }

    int size(int store) {
        store(store);
        return held.get(store).size();
    }

    int winner(int store, int document) {
        store(store);
        document(document);
        Revision best = best(of(held.get(store), document));
        return best == null ? -1 : best.number;
    }

    int winnerOfAll(int document) {
        document(document);
        TreeSet<Integer> union = new TreeSet<>();
        for (TreeSet<Integer> one : held) {
            union.addAll(one);
        }
        Revision best = best(of(union, document));
        return best == null ? -1 : best.number;
    }

    int conflicts(int store, int document) {
        store(store);
        document(document);
        int live = 0;
        for (Revision leaf : leaves(of(held.get(store), document))) {
            live += leaf.deletion ? 0 : 1;
        }
        return live == 0 ? 0 : live - 1;
    }

    // ---- the view

    private List<Integer> view(int store) {
        List<int[]> rows = new ArrayList<>();
        for (int document = 0; document < 4; document++) {
            Revision best = best(of(held.get(store), document));
            if (best != null && !best.deletion) {
                rows.add(new int[] {best.value, document});
            }
        }
        // A stable sort keeps the rising numbers of the documents with the same value.
        rows.sort((one, other) -> Integer.compare(one[0], other[0]));
        List<Integer> documents = new ArrayList<>();
        for (int[] row : rows) {
            documents.add(row[1]);
        }
        return documents;
    }

    int count(int store, int low, int high) {
        store(store);
        int found = 0;
        for (int document : view(store)) {
            int value = best(of(held.get(store), document)).value;
            found += low <= value && value <= high ? 1 : 0;
        }
        return found;
    }

    int viewAt(int store, int place) {
        store(store);
        List<Integer> view = view(store);
        index(place >= 0 && place < view.size());
        return view.get(place);
    }
}
