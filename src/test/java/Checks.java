import java.util.Objects;

/** Counts what is as due, and tells what is not. */
final class Checks {
    /** A call whose answer is looked at; it may throw. */
    interface Call {
        Object answer();
    }

    static final int NONE = -1;
    static final int REFUSED = -9;
    static final int NOTHING = 100;

    private static int passed = 0;
    private static int failed = 0;
    private static int sentences = 0;
    private static String sentence = "";

    private Checks() {
    }

    /** A test of one sentence of the document; it has to look at something. */
    static void sentence(String where, String words, Runnable test) {
        sentences++;
        sentence = where + " \"" + words + "\": ";
        int ahead = passed + failed;
        try {
            test.run();
        } catch (RuntimeException e) {
            due("a call that was not to throw", e, null);
        }
        if (passed + failed == ahead) {
            due("what was looked at", 0, "something");
        }
        sentence = "";
    }

    static void sentence(int promise, String words, Runnable test) {
        sentence("Promise " + promise, words, test);
    }

    static void due(String call, Object got, Object want) {
        if (Objects.equals(got, want)) {
            passed++;
        } else {
            failed++;
            System.out.println(sentence + call + " answered " + got + ", due is " + want);
        }
    }

    /** The call throws just this, and nothing that can be asked is otherwise then. */
    static void throwsDue(Overwalks x, String call, Class<? extends RuntimeException> want, Call made) {
        String ahead = state(x) + " refused " + x.house(4);
        Object got;
        try {
            got = made.answer();
        } catch (RuntimeException e) {
            got = e.getClass();
        }
        due(call, got, want);
        due("the state behind " + call, state(x) + " refused " + x.house(4), ahead);
    }

    static void noPlace(Overwalks x, String call, Call made) {
        throwsDue(x, call, IndexOutOfBoundsException.class, made);
    }

    static void badArgument(Overwalks x, String call, Call made) {
        throwsDue(x, call, IllegalArgumentException.class, made);
    }

    static void badState(Overwalks x, String call, Call made) {
        throwsDue(x, call, IllegalStateException.class, made);
    }

    /** The call answers REFUSED, that is counted once, and nothing else is otherwise. */
    static void refused(Overwalks x, String call, Call made) {
        String ahead = state(x);
        int refusals = x.house(4);
        Object got = made.answer();
        due(call, got, got instanceof String ? "!" : (Object) REFUSED);
        due("house(4) behind " + call, x.house(4), refusals + 1);
        due("the state behind " + call, state(x), ahead);
    }

    /** The call answers this, and nothing that can be asked is otherwise then. */
    static void onlyAsks(Overwalks x, String call, Call made, Object want) {
        long ahead = x.digest();
        due(call, made.answer(), want);
        due("digest() behind " + call, x.digest(), ahead);
    }

    static String state(Overwalks x) {
        StringBuilder all = new StringBuilder();
        for (int shelf = 0; shelf <= 10; shelf++) {
            all.append(shelf).append(": ").append(x.text(shelf)).append("; ");
        }
        for (int walk = 0; walk <= 5; walk++) {
            for (int what = 0; what <= 3; what++) {
                all.append(x.ofWalk(walk, what)).append(' ');
            }
        }
        return all.append("knocks ").append(x.house(5)).toString();
    }

    /** What digest() has to be, reckoned from the other answers. */
    static long reckoned(Overwalks x, boolean isSound) {
        long d = 7780;
        for (int what = 0; what <= 5; what++) {
            d = d * 31 + x.house(what);
        }
        for (int shelf = 0; shelf <= 10; shelf++) {
            d = d * 31 + x.size(shelf);
            for (String thing : x.isEmpty(shelf) ? new String[0] : x.text(shelf).split(" ")) {
                d = d * 31 + (thing.equals("-") ? NOTHING : Integer.parseInt(thing));
            }
        }
        for (int walk = 0; walk <= 5; walk++) {
            for (int what = 0; what <= 3; what++) {
                d = d * 31 + x.ofWalk(walk, what);
            }
        }
        return d * 31 + (isSound ? 1 : 0);
    }

    static void end() {
        if (sentences > 0) {
            System.out.println(sentences + " sentences of the document");
        }
        System.out.println(passed + " checks passed, " + failed + " failed");
        if (failed != 0 || passed == 0) {
            System.exit(1);
        }
    }

    // ---- shelves and walks to begin with

    static final int[] SHELVES = {0, 1, 2, 3, 4, 5, 6, 7, 8, 9, 10};
    static final int[] LISTS = {8, 9, 10};
    static final int[] TAKE_NOTHINGS = {0, 1, 2, 4, 8, 9, 10};
    static final int[] PUT_UPON = {0, 1, 2, 3, 4, 5, 8, 9, 10};
    static final int[] TABLE = {6, 7};
    static final int[] WALKS = {0, 1, 2, 3, 4, 5};
    static final int[] FILLINGS = {0, 1, 2, 3, 4, 5, 6, 7, 8, 9, 10, 11, 12};
    static final int[] ROWS = {0, 1, 2, 8, 9, 10};
    static final int[] NO_ROWS = {-1, 3, 4, 5, 6, 7, 11, Integer.MIN_VALUE, Integer.MAX_VALUE};
    static final int[] NO_SHELVES = {-1, 11, Integer.MIN_VALUE, Integer.MAX_VALUE};
    static final int[] NO_LISTS = {-1, 0, 7, 11, Integer.MIN_VALUE, Integer.MAX_VALUE};
    static final int[] NO_WALKS = {-1, 6, Integer.MIN_VALUE, Integer.MAX_VALUE};
    static final int[] NO_THINGS = {-1, 100, 101, Integer.MIN_VALUE, Integer.MAX_VALUE};
    static final int[] NO_THINGS_OR_NOTHING = {-1, 101, Integer.MIN_VALUE, Integer.MAX_VALUE};
    static final int[] TAKE_NO_NOTHINGS = {3, 5, 6, 7};

    /** A new object with these on one SHELF (on KEYS and VALUES the pairs 1/1, 2/2 .. so many). */
    static Overwalks with(int shelf, int... things) {
        Overwalks x = new Overwalks();
        lay(x, shelf, things);
        return x;
    }

    static void lay(Overwalks x, int shelf, int... things) {
        for (int thing : things) {
            if (shelf == 6 || shelf == 7) {
                x.pair(thing, thing);
            } else {
                x.put(shelf, thing);
            }
        }
    }

    static int[] upTo(int many) {
        int[] things = new int[many];
        for (int i = 0; i < many; i++) {
            things[i] = i + 1;
        }
        return things;
    }

    static boolean isAmong(int[] some, int one) {
        for (int each : some) {
            if (each == one) {
                return true;
            }
        }
        return false;
    }

    /** The HOWS that a WALK over this SHELF may have. */
    static int[] howsOver(int shelf) {
        return shelf == 0 ? new int[] {0, 1, 2} : new int[] {0, 1};
    }

    /** The HOWS over this SHELF but ITERATOR. */
    static int[] howsThatGiveAll(int shelf) {
        return shelf == 0 ? new int[] {0, 2} : new int[] {0};
    }

    /** Something comes upon this SHELF or goes from it. */
    static void shift(Overwalks x, int shelf) {
        if (x.isEmpty(shelf)) {
            lay(x, shelf, 1);
        } else {
            x.take(shelf, x.first(shelf, false));
        }
    }

    /** A WALK is made and STALE at once. */
    static void makeStale(Overwalks x, int walk, int shelf, int how) {
        x.walk(walk, shelf, how);
        shift(x, shelf);
    }

    static boolean isStale(Overwalks x, int walk) {
        return x.ofWalk(walk, 3) == 1;
    }
}
