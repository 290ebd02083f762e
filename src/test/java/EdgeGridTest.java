import java.util.ArrayList;
import java.util.List;

/**
 * Every method with every choice of edge arguments, in prepared states from empty to full, on
 * Overwalks and on CollectionsModel side by side. A call that did something is followed by what
 * would tell a difference that digest() does not (see AFTERMATH). One that asked, threw or was
 * REFUSED may leave none: the next one is made on the same pair, and AFTERMATH comes at the end.
 */
public final class EdgeGridTest {
    private static final int MIN = Integer.MIN_VALUE;
    private static final int MAX = Integer.MAX_VALUE;

    /** The methods, and a sign for each argument (see edgesOf()). */
    private static final String[] KINDS = {
        "put st", "putAll snnnn", "take st", "clear s", "pair tt", "pour ss", "change rpt",
        "insert rpt", "remove rp", "turn r", "rotate ry", "swap rpp", "fill rt", "replace rtt",
        "copies rtm", "walk wsh", "next w", "more w", "takeOut w", "rest w", "keepRest wl",
        "keep ls", "drop w", "skip wm", "pourRest ws", "zip ww", "text s", "list s", "size s",
        "isEmpty s", "has st", "often st", "placeOf rtb", "disjoint ss", "end sb", "code s",
        "areAlike ss", "first sb", "valueOf t", "ofWalk wq", "house q", "knock ", "isSound ",
        "digest "
    };

    private static final List<String> ASKING = List.of("more", "text", "list", "size", "isEmpty",
            "has", "often", "placeOf", "disjoint", "end", "code", "areAlike", "first", "valueOf",
            "ofWalk", "house", "isSound", "digest");

    private static final int[] FILLINGS = {0, 1, 6, 7, 11, 12};
    /** With the state, AFTERMATH and each digest() an object stays below 512 calls. */
    private static final int CALLS_ON_ONE_PAIR = 100;

    private static final List<SideBySide.Call> AFTERMATH = aftermath();

    private static long calls = 0;

    public static void main(String[] args) {
        for (int filling : FILLINGS) {
            for (int walks = 0; walks <= 3; walks++) {
                for (String kind : KINDS) {
                    // The many choices of putAll() say nothing about WALKS: two states will do.
                    if (!kind.startsWith("putAll") || walks == 0 || walks == 2) {
                        Checks.due(filling + " on each, WALKS " + walks + ": " + kind,
                                agreesEverywhere(state(filling, walks), kind), true);
                    }
                }
            }
        }
        System.out.println(calls + " calls with edge arguments");
        Checks.end();
    }

    private static boolean agreesEverywhere(List<SideBySide.Call> state, String kind) {
        String[] parts = kind.split(" ", -1);
        Object[][] edges = new Object[parts[1].length()][];
        for (int k = 0; k < edges.length; k++) {
            edges[k] = edgesOf(parts[1].charAt(k));
        }
        int[] choice = new int[edges.length];
        SideBySide both = null;
        boolean agrees = true;
        do {
            if (both == null) {
                both = new SideBySide();
                agrees = both.agreesOnAll(state);
            }
            Object[] arguments = new Object[edges.length];
            for (int k = 0; k < edges.length; k++) {
                arguments[k] = edges[k][choice[k]];
            }
            calls++;
            agrees = agrees && both.agreesOn(new SideBySide.Call(parts[0], arguments));
            boolean didSomething = !ASKING.contains(parts[0]) && !both.wasThrownOrRefused();
            if (agrees && (didSomething || calls % CALLS_ON_ONE_PAIR == 0)) {
                agrees = both.agreesOnAll(AFTERMATH);
                both = null;
            }
        } while (agrees && advance(choice, edges));
        return agrees && (both == null || both.agreesOnAll(AFTERMATH));
    }

    private static boolean advance(int[] choice, Object[][] edges) {
        for (int k = 0; k < choice.length; k++) {
            choice[k]++;
            if (choice[k] < edges[k].length) {
                return true;
            }
            choice[k] = 0;
        }
        return false;
    }

    private static Object[] edgesOf(char sign) {
        switch (sign) {
            case 's':
            case 'r':
            case 'l':
                return range(-1, 11, MIN, MAX);
            case 'w':
                return range(-1, 6, MIN, MAX);
            case 't':
                return range(-1, 2, MIN, 60, 98, 99, 100, 101, MAX);
            case 'n':
                return new Object[] {-2, -1, 1, 60, 100, 101};
            case 'p':
            case 'm':
                return range(-1, 13, MIN, MAX);
            case 'h':
                return range(-1, 3, MIN, MAX);
            case 'y':
                return range(-21, 21, MIN, MAX);
            case 'q':
                return range(-1, 6, MIN, MAX);
            default:
                return new Object[] {false, true};
        }
    }

    private static Object[] range(int from, int to, int... others) {
        Object[] all = new Object[to - from + 1 + others.length];
        for (int i = 0; i <= to - from; i++) {
            all[i] = from + i;
        }
        for (int i = 0; i < others.length; i++) {
            all[to - from + 1 + i] = others[i];
        }
        return all;
    }

    // ---- the states

    private static List<SideBySide.Call> state(int filling, int walks) {
        List<SideBySide.Call> state = new ArrayList<>();
        for (int shelf = 0; shelf <= 10; shelf++) {
            for (int i = 0; i < filling; i++) {
                if (shelf == 7) {
                    continue;
                }
                if (shelf == 6) {
                    add(state, "pair", 99 - 9 * i, i % 4);
                } else {
                    add(state, "put", shelf, thingFor(shelf, i));
                }
            }
        }
        addWalks(state, walks);
        return state;
    }

    /** ROWS 0 and 8 and KEPT get a NOTHING; ROWS and the QUEUE get some THINGS twice. */
    private static int thingFor(int shelf, int i) {
        if (i == 2 && (shelf == 0 || shelf == 4 || shelf == 8)) {
            return 100;
        }
        boolean hasEachOnce = shelf == 3 || shelf == 4;
        return hasEachOnce ? 99 - 7 * i : (i * 5 + shelf) % 8;
    }

    private static void addWalks(List<SideBySide.Call> state, int walks) {
        if (walks == 1) {
            for (int walk = 0; walk <= 5; walk++) {
                add(state, "walk", walk, new int[] {0, 8, 6, 7, 4, 3}[walk], walk % 2);
                add(state, "skip", walk, walk / 2);
            }
        } else if (walks == 2) {
            add(state, "walk", 0, 0, 2);
            add(state, "walk", 1, 0, 1);
            add(state, "walk", 2, 9, 1);
            add(state, "walk", 3, 9, 0);
            add(state, "walk", 4, 6, 1);
            add(state, "skip", 0, 1);
            add(state, "skip", 1, 12);
            add(state, "next", 2);
            add(state, "turn", 9);
            add(state, "skip", 4, 3);
        } else if (walks == 3) {
            for (int walk = 0; walk <= 5; walk++) {
                add(state, "walk", walk, new int[] {1, 2, 5, 6, 8, 10}[walk], 1);
                add(state, "skip", walk, 2);
                if (walk != 3) {
                    add(state, "takeOut", walk);
                }
            }
            add(state, "take", 2, 2);
            add(state, "next", 0);
            add(state, "keep", 10, 5);
        }
    }

    private static List<SideBySide.Call> aftermath() {
        List<SideBySide.Call> after = new ArrayList<>();
        for (int round = 0; round < 2; round++) {
            for (int walk = 0; walk <= 5; walk++) {
                add(after, "takeOut", walk);
                add(after, "next", walk);
            }
        }
        for (int walk = 0; walk <= 5; walk++) {
            add(after, "rest", walk);
            add(after, "more", walk);
        }
        return after;
    }

    private static void add(List<SideBySide.Call> to, String name, Object... arguments) {
        to.add(new SideBySide.Call(name, arguments));
    }
}
