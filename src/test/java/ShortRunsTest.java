import java.util.ArrayList;
import java.util.List;

/**
 * Every run of up to four calls out of some that meet on one SHELF, with two WALKS over it, on
 * Overwalks and on CollectionsModel side by side: STALE, TURNED, GIVEN and what can be TAKEN OUT
 * behind every short sequence of what may come ahead of it.
 */
public final class ShortRunsTest {
    private static final int LONGEST = 4;

    private static long runs = 0;

    public static void main(String[] args) {
        for (int row : new int[] {0, 2, 8}) {
            tryAll("row " + row, laid(row), rowCalls(row));
        }
        for (int shelf : new int[] {3, 4, 5}) {
            tryAll("SHELF " + shelf, laid(shelf), shelfCalls(shelf));
        }
        tryAll("KEYS", laidPairs(), tableCalls(6));
        tryAll("VALUES", laidPairs(), tableCalls(7));
        System.out.println(runs + " short runs");
        Checks.end();
    }

    private static void tryAll(String name, List<SideBySide.Call> laid, List<SideBySide.Call> some) {
        int[] choice = new int[LONGEST];
        boolean agrees = true;
        while (agrees && choice[0] < some.size()) {
            agrees = agreesOnRun(laid, some, choice);
            runs++;
            advance(choice, some.size());
        }
        Checks.due(name + ": all short runs agree", agrees, true);
    }

    private static boolean agreesOnRun(List<SideBySide.Call> laid, List<SideBySide.Call> some,
            int[] choice) {
        SideBySide both = new SideBySide();
        List<SideBySide.Call> run = new ArrayList<>(laid);
        for (int chosen : choice) {
            run.add(some.get(chosen));
        }
        // What digest() does not tell shows in what can be TAKEN OUT.
        add(run, "takeOut", 0);
        add(run, "more", 1);
        add(run, "takeOut", 1);
        return both.agreesOnAll(run);
    }

    private static void advance(int[] choice, int many) {
        int k = choice.length - 1;
        choice[k]++;
        while (k > 0 && choice[k] == many) {
            choice[k] = 0;
            k--;
            choice[k]++;
        }
    }

    // ---- the calls

    private static List<SideBySide.Call> laid(int shelf) {
        List<SideBySide.Call> laid = new ArrayList<>();
        add(laid, "putAll", shelf, 1, 2, 3, -1);
        add(laid, "walk", 0, shelf, 1);
        add(laid, "walk", 1, shelf, 0);
        add(laid, "next", 0);
        return laid;
    }

    private static List<SideBySide.Call> laidPairs() {
        List<SideBySide.Call> laid = new ArrayList<>();
        add(laid, "pair", 1, 9);
        add(laid, "pair", 3, 8);
        add(laid, "pair", 5, 9);
        add(laid, "walk", 0, 6, 1);
        add(laid, "walk", 1, 7, 1);
        add(laid, "next", 0);
        return laid;
    }

    private static List<SideBySide.Call> walkCalls(int shelf) {
        List<SideBySide.Call> some = new ArrayList<>();
        add(some, "next", 0);
        add(some, "next", 1);
        add(some, "takeOut", 0);
        add(some, "skip", 0, 0);
        add(some, "skip", 0, 2);
        add(some, "rest", 1);
        add(some, "pourRest", 1, shelf);
        add(some, "keepRest", 1, 8);
        add(some, "zip", 0, 1);
        add(some, "walk", 0, shelf, 1);
        add(some, "drop", 0);
        add(some, "clear", shelf);
        return some;
    }

    private static List<SideBySide.Call> rowCalls(int row) {
        List<SideBySide.Call> some = walkCalls(row);
        add(some, "put", row, 100);
        add(some, "take", row, 1);
        add(some, "turn", row);
        add(some, "rotate", row, 0);
        add(some, "change", row, 1, 7);
        add(some, "change", row, 1, 101);
        add(some, "insert", row, 0, 4);
        add(some, "copies", row, 5, 0);
        if (row >= 8) {
            add(some, "keep", row, row);
        } else {
            add(some, "walk", 1, row, row == 0 ? 2 : 1);
        }
        return some;
    }

    private static List<SideBySide.Call> shelfCalls(int shelf) {
        List<SideBySide.Call> some = walkCalls(shelf);
        add(some, "put", shelf, 2);
        add(some, "put", shelf, 0);
        add(some, "put", shelf, 100);
        add(some, "take", shelf, 1);
        add(some, "take", shelf, 7);
        add(some, "pour", shelf, shelf);
        return some;
    }

    private static List<SideBySide.Call> tableCalls(int shelf) {
        List<SideBySide.Call> some = walkCalls(shelf);
        add(some, "takeOut", 1);
        add(some, "pair", 3, 7);
        add(some, "pair", 2, 7);
        add(some, "take", 6, 3);
        add(some, "take", 7, 9);
        add(some, "take", 6, 100);
        add(some, "walk", 1, 7, 0);
        return some;
    }

    private static void add(List<SideBySide.Call> to, String name, Object... arguments) {
        to.add(new SideBySide.Call(name, arguments));
    }
}
