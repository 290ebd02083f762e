import java.util.ArrayDeque;
import java.util.ArrayList;
import java.util.Arrays;
import java.util.Collection;
import java.util.Collections;
import java.util.Enumeration;
import java.util.Iterator;
import java.util.LinkedHashSet;
import java.util.LinkedList;
import java.util.List;
import java.util.TreeMap;
import java.util.TreeSet;
import java.util.Vector;

/**
 * The document once more, upon the collections and iterators of java.util that it speaks of
 * (NOTHING is null there); the random runs compare Overwalks with it.
 */
final class CollectionsModel {
    private static final class ModelWalk {
        int shelf;
        int how;
        int given;
        boolean stale;
        boolean canTakeOut;
        Iterator<Integer> iterator;
        Enumeration<Integer> enumeration;

        boolean hasMore() {
            return how == 1 ? iterator.hasNext() : enumeration.hasMoreElements();
        }

        Integer give() {
            given++;
            canTakeOut = true;
            return how == 1 ? iterator.next() : enumeration.nextElement();
        }

        List<Integer> giveAll() {
            List<Integer> all = Collections.list(enumeration);
            given += all.size();
            return all;
        }
    }

    private final Vector<Integer> vector = new Vector<>();
    private final TreeMap<Integer, Integer> table = new TreeMap<>();
    private final List<Collection<Integer>> shelves = new ArrayList<>(Arrays.asList(
            vector, new ArrayList<>(), new LinkedList<>(), new TreeSet<>(), new LinkedHashSet<>(),
            new ArrayDeque<>(), table.keySet(), table.values(),
            new ArrayList<>(), new ArrayList<>(), new ArrayList<>()));
    private final ModelWalk[] walks = new ModelWalk[6];
    private int refusals;
    private int knocks;

    // ---- shelves

    int put(int shelf, int thing) {
        Collection<Integer> c = shelf(shelf);
        argument(thing >= 0 && thing <= 100);
        state(c.size() < 12);
        if (ofTable(shelf) || notTaken(shelf, thing)) {
            return refuse();
        }
        return addAll(shelf, List.of(thing)) ? 1 : 0;
    }

    int putAll(int shelf, int a, int b, int c, int d) {
        Collection<Integer> into = shelf(shelf);
        List<Integer> counting = new ArrayList<>();
        boolean ended = false;
        for (int thing : new int[] {a, b, c, d}) {
            argument(thing >= -1 && thing <= 100);
            ended |= thing == -1;
            if (!ended) {
                counting.add(thing);
            }
        }
        state(into.size() + counting.size() <= 12);
        if (ofTable(shelf) || counting.contains(100) && notTaken(shelf, 100)) {
            return refuse();
        }
        return addAll(shelf, counting) ? 1 : 0;
    }

    int take(int shelf, int thing) {
        Collection<Integer> c = shelf(shelf);
        argument(thing >= 0 && thing <= 100);
        if (notTaken(shelf, thing)) {
            return refuse();
        }
        // Vector counts a removal also where it finds nothing; the document does not.
        boolean gone = c.contains(boxed(thing)) && c.remove(boxed(thing));
        if (gone) {
            shifted(shelf);
        }
        return gone ? 1 : 0;
    }

    int clear(int shelf) {
        Collection<Integer> c = shelf(shelf);
        int lay = c.size();
        if (lay > 0) {
            c.clear();
            shifted(shelf);
        }
        return lay;
    }

    int pair(int key, int value) {
        argument(key >= 0 && key <= 99 && value >= 0 && value <= 99);
        state(table.containsKey(key) || table.size() < 12);
        Integer old = table.put(key, value);
        if (old == null) {
            shifted(6);
        }
        return old == null ? -1 : old;
    }

    int pour(int from, int into) {
        Collection<Integer> source = shelf(from);
        Collection<Integer> target = shelf(into);
        state(source.size() + target.size() <= 12);
        if (ofTable(into) || holdsNothing(from) && notTaken(into, 100)) {
            return refuse();
        }
        return addAll(into, told(source)) ? 1 : 0;
    }

    int change(int row, int place, int thing) {
        List<Integer> list = row(row);
        index(place >= 0 && place < list.size());
        argument(thing >= 0 && thing <= 100);
        turned(row);
        return told(list.set(place, boxed(thing)));
    }

    int insert(int row, int place, int thing) {
        List<Integer> list = row(row);
        index(place >= 0 && place <= list.size());
        argument(thing >= 0 && thing <= 100);
        state(list.size() < 12);
        list.add(place, boxed(thing));
        shifted(row);
        return list.size();
    }

    int remove(int row, int place) {
        List<Integer> list = row(row);
        index(place >= 0 && place < list.size());
        shifted(row);
        return told(list.remove(place));
    }

    int turn(int row) {
        List<Integer> list = row(row);
        Collections.reverse(list);
        turned(row);
        return list.size();
    }

    int rotate(int row, int by) {
        List<Integer> list = row(row);
        argument(Math.abs((long) by) <= 20);
        Collections.rotate(list, by);
        turned(row);
        return list.size();
    }

    int swap(int row, int place, int other) {
        List<Integer> list = row(row);
        index(place >= 0 && place < list.size() && other >= 0 && other < list.size());
        Collections.swap(list, place, other);
        turned(row);
        return told(list.get(place));
    }

    int fill(int row, int thing) {
        List<Integer> list = row(row);
        argument(thing >= 0 && thing <= 100);
        Collections.fill(list, boxed(thing));
        turned(row);
        return list.size();
    }

    int replace(int row, int thing, int by) {
        List<Integer> list = row(row);
        argument(thing >= 0 && thing <= 100 && by >= 0 && by <= 100);
        turned(row);
        return Collections.replaceAll(list, boxed(thing), boxed(by)) ? 1 : 0;
    }

    int copies(int row, int thing, int many) {
        List<Integer> list = row(row);
        argument(thing >= 0 && thing <= 100 && many >= 0 && many <= 12);
        state(list.size() + many <= 12);
        addAll(row, Collections.nCopies(many, thing));
        return list.size();
    }

    // ---- walks

    int walk(int walk, int shelf, int how) {
        index(walk >= 0 && walk <= 5);
        Collection<Integer> c = shelf(shelf);
        argument(how >= 0 && how <= 2 && (how < 2 || shelf == 0));
        ModelWalk w = new ModelWalk();
        w.shelf = shelf;
        w.how = how;
        if (how == 1) {
            w.iterator = c.iterator();
        } else {
            w.enumeration = how == 0 ? Collections.enumeration(c) : vector.elements();
        }
        walks[walk] = w;
        return c.size();
    }

    int next(int walk) {
        ModelWalk w = made(walk);
        return w.stale || !w.hasMore() ? refuse() : told(w.give());
    }

    int more(int walk) {
        ModelWalk w = made(walk);
        return w.stale ? refuse() : w.hasMore() ? 1 : 0;
    }

    int takeOut(int walk) {
        ModelWalk w = made(walk);
        if (w.stale || w.how != 1 || w.shelf == 7 || !w.canTakeOut) {
            return refuse();
        }
        w.iterator.remove();
        shifted(w.shelf);
        w.stale = false;
        w.canTakeOut = false;
        return shelves.get(w.shelf).size();
    }

    String rest(int walk) {
        ModelWalk w = made(walk);
        if (w.stale || w.how == 1) {
            refuse();
            return "!";
        }
        return text(w.giveAll());
    }

    int keepRest(int walk, int list) {
        index(walk >= 0 && walk <= 5 && list >= 8 && list <= 10);
        ModelWalk w = made(walk);
        if (w.stale || w.how == 1 || w.shelf == list) {
            return refuse();
        }
        return becomes(list, w.giveAll());
    }

    int keep(int list, int shelf) {
        index(list >= 8 && list <= 10);
        return becomes(list, Collections.list(Collections.enumeration(shelf(shelf))));
    }

    int drop(int walk) {
        index(walk >= 0 && walk <= 5);
        int was = walks[walk] == null ? 0 : 1;
        walks[walk] = null;
        return was;
    }

    int skip(int walk, int many) {
        index(walk >= 0 && walk <= 5);
        argument(many >= 0 && many <= 12);
        ModelWalk w = made(walk);
        if (w.stale) {
            return refuse();
        }
        int gave = 0;
        for (; gave < many && w.hasMore(); gave++) {
            w.give();
        }
        return gave;
    }

    int pourRest(int walk, int into) {
        index(walk >= 0 && walk <= 5);
        Collection<Integer> target = shelf(into);
        ModelWalk w = made(walk);
        state(shelves.get(w.shelf).size() + target.size() <= 12);
        if (w.stale || w.how == 1 || ofTable(into) || holdsNothing(w.shelf) && notTaken(into, 100)) {
            return refuse();
        }
        List<Integer> all = w.giveAll();
        addAll(into, told(all));
        return all.size();
    }

    String zip(int walk, int other) {
        index(walk >= 0 && walk <= 5 && other >= 0 && other <= 5);
        argument(walk != other);
        ModelWalk one = made(walk);
        ModelWalk two = made(other);
        if (one.stale || two.stale) {
            refuse();
            return "!";
        }
        List<String> pairs = new ArrayList<>();
        while (one.hasMore() && two.hasMore()) {
            String first = named(one.give());
            pairs.add(first + "/" + named(two.give()));
        }
        return String.join(" ", pairs);
    }

    // ---- what is asked

    String text(int shelf) {
        return text(shelf(shelf));
    }

    String list(int shelf) {
        return text(Collections.list(Collections.enumeration(shelf(shelf))));
    }

    int size(int shelf) {
        return shelf(shelf).size();
    }

    boolean isEmpty(int shelf) {
        return shelf(shelf).isEmpty();
    }

    int has(int shelf, int thing) {
        Collection<Integer> c = shelf(shelf);
        argument(thing >= 0 && thing <= 100);
        return notTaken(shelf, thing) ? refuse() : c.contains(boxed(thing)) ? 1 : 0;
    }

    int often(int shelf, int thing) {
        Collection<Integer> c = shelf(shelf);
        argument(thing >= 0 && thing <= 100);
        return Collections.frequency(c, boxed(thing));
    }

    int placeOf(int row, int thing, boolean isLast) {
        List<Integer> list = row(row);
        argument(thing >= 0 && thing <= 100);
        return isLast ? list.lastIndexOf(boxed(thing)) : list.indexOf(boxed(thing));
    }

    int disjoint(int one, int other) {
        Collection<Integer> left = shelf(one);
        Collection<Integer> right = shelf(other);
        if (holdsNothing(one) && notTaken(other, 100) || holdsNothing(other) && notTaken(one, 100)) {
            return refuse();
        }
        return Collections.disjoint(left, right) ? 1 : 0;
    }

    int end(int shelf, boolean isLeast) {
        Collection<Integer> c = shelf(shelf);
        if (c.isEmpty() || holdsNothing(shelf)) {
            return refuse();
        }
        return isLeast ? Collections.min(c) : Collections.max(c);
    }

    int code(int shelf) {
        return new ArrayList<>(shelf(shelf)).hashCode();
    }

    boolean areAlike(int one, int other) {
        Collection<Integer> left = shelf(one);
        return new ArrayList<>(left).equals(new ArrayList<>(shelf(other)));
    }

    int first(int shelf, boolean isLast) {
        List<Integer> list = told(shelf(shelf));
        return list.isEmpty() ? refuse() : list.get(isLast ? list.size() - 1 : 0);
    }

    int valueOf(int key) {
        argument(key >= 0 && key <= 99);
        return table.getOrDefault(key, -1);
    }

    int ofWalk(int walk, int what) {
        index(walk >= 0 && walk <= 5);
        argument(what >= 0 && what <= 3);
        ModelWalk w = walks[walk];
        return w == null ? -1 : new int[] {w.shelf, w.how, w.given, w.stale ? 1 : 0}[what];
    }

    int house(int what) {
        argument(what >= 0 && what <= 5);
        int things = 0;
        int nothings = 0;
        int made = 0;
        int stale = 0;
        for (Collection<Integer> c : shelves) {
            things += c.size();
            nothings += Collections.frequency(c, null);
        }
        for (ModelWalk w : walks) {
            made += w != null ? 1 : 0;
            stale += w != null && w.stale ? 1 : 0;
        }
        return new int[] {things, nothings, made, stale, refusals, knocks}[what];
    }

    int knock() {
        return ++knocks;
    }

    boolean isSound() {
        return true;
    }

    long digest() {
        long d = 7780;
        for (int what = 0; what <= 5; what++) {
            d = d * 31 + house(what);
        }
        for (Collection<Integer> c : shelves) {
            d = d * 31 + c.size();
            for (int thing : told(c)) {
                d = d * 31 + thing;
            }
        }
        for (int walk = 0; walk <= 5; walk++) {
            for (int what = 0; what <= 3; what++) {
                d = d * 31 + ofWalk(walk, what);
            }
        }
        return d * 31 + 1;
    }

    // ---- what the calls share

    private Collection<Integer> shelf(int number) {
        index(number >= 0 && number <= 10);
        return shelves.get(number);
    }

    private List<Integer> row(int number) {
        index(shelf(number) instanceof List);
        return (List<Integer>) shelves.get(number);
    }

    private ModelWalk made(int number) {
        index(number >= 0 && number <= 5);
        state(walks[number] != null);
        return walks[number];
    }

    private boolean addAll(int shelf, List<Integer> things) {
        boolean changed = false;
        for (int thing : things) {
            changed |= shelves.get(shelf).add(boxed(thing));
        }
        if (changed) {
            shifted(shelf);
        }
        return changed;
    }

    private int becomes(int list, List<Integer> things) {
        shelves.set(list, new ArrayList<>(things));
        shifted(list);
        return things.size();
    }

    private void shifted(int shelf) {
        for (ModelWalk w : walks) {
            if (w != null && (w.shelf == shelf || ofTable(w.shelf) && ofTable(shelf))) {
                w.stale = true;
            }
        }
    }

    private void turned(int shelf) {
        for (ModelWalk w : walks) {
            if (w != null && w.shelf == shelf) {
                w.canTakeOut = false;
            }
        }
    }

    private int refuse() {
        refusals++;
        return -9;
    }

    private static boolean ofTable(int shelf) {
        return shelf == 6 || shelf == 7;
    }

    private static boolean notTaken(int shelf, int thing) {
        return thing == 100 && List.of(3, 5, 6, 7).contains(shelf);
    }

    private boolean holdsNothing(int shelf) {
        return Collections.frequency(shelves.get(shelf), null) > 0;
    }

    private static Integer boxed(int thing) {
        return thing == 100 ? null : Integer.valueOf(thing);
    }

    private static int told(Integer thing) {
        return thing == null ? 100 : thing;
    }

    private static List<Integer> told(Collection<Integer> things) {
        List<Integer> all = new ArrayList<>();
        for (Integer thing : things) {
            all.add(told(thing));
        }
        return all;
    }

    private static String named(Integer thing) {
        return thing == null ? "-" : thing.toString();
    }

    private static String text(Collection<Integer> things) {
        List<String> names = new ArrayList<>();
        for (Integer thing : things) {
            names.add(named(thing));
        }
        return String.join(" ", names);
    }

    private static void index(boolean isThere) {
        if (!isThere) {
            throw new IndexOutOfBoundsException();
        }
    }

    private static void argument(boolean isGood) {
        if (!isGood) {
            throw new IllegalArgumentException();
        }
    }

    private static void state(boolean isGood) {
        if (!isGood) {
            throw new IllegalStateException();
        }
    }
}
