import java.util.LinkedHashMap;
import java.util.Map;

/** What the document says of numbers, refusals and shelves ahead of its promises. */
public final class DescriptionSentencesTest {
    private static final int NONE = Checks.NONE;
    private static final int NOTHING = Checks.NOTHING;

    private static final Class<? extends RuntimeException> NO_PLACE = IndexOutOfBoundsException.class;
    private static final Class<? extends RuntimeException> BAD_ARGUMENT = IllegalArgumentException.class;
    private static final Class<? extends RuntimeException> BAD_STATE = IllegalStateException.class;

    public static void main(String[] args) {
        calls();
        numbersAndRefusals();
        exceptions();
        things();
        shelves();
        kindsOfShelves();
        put();
        Checks.end();
    }

    private static void sentence(String words, Runnable test) {
        Checks.sentence("Description", words, test);
    }

    private static void calls() {
        sentence("An object is used for at most 512 calls after it has been made", () -> {
            Overwalks knocked = new Overwalks();
            Overwalks refused = new Overwalks();
            Overwalks laid = new Overwalks();
            for (int call = 1; call <= 511; call++) {
                Checks.due("knock " + call, knocked.knock(), call);
                Checks.due("refused put " + call, refused.put(6, 1), Checks.REFUSED);
                Checks.due("put and take " + call, call % 2 == 1 ? laid.put(0, 1) : laid.take(0, 1), 1);
            }
            Checks.due("the 512th knock", knocked.knock(), 512);
            Checks.due("house(4) as 512th call", refused.house(4), 511);
            Checks.due("digest() as 512th call", laid.digest(), Checks.reckoned(laid, true));
        });
    }

    // ---- numbers and refusals

    /**
     * Something refuses everywhere: WALK 0 is STALE, 1 is an ITERATOR, 2 is over VALUES, 3 is an
     * ENUMERATION of the VECTOR with a NOTHING, 4 is at its end, 5 gave none.
     */
    private static Overwalks refuser() {
        Overwalks x = new Overwalks();
        x.putAll(0, 1, NOTHING, NONE, NONE);
        x.pair(1, 5);
        x.pair(2, 5);
        x.putAll(3, 3, 4, NONE, NONE);
        x.put(5, 7);
        x.put(8, 6);
        x.walk(0, 0, 0);
        x.put(0, 2);
        x.walk(1, 0, 1);
        x.next(1);
        x.walk(2, 7, 1);
        x.next(2);
        x.walk(3, 0, 0);
        x.next(3);
        x.walk(4, 8, 0);
        x.next(4);
        x.walk(5, 3, 1);
        return x;
    }

    /** What each method that names REFUSED answers with it, upon a refuser(). */
    private static Map<String, Checks.Call> refusedCalls(Overwalks x) {
        Map<String, Checks.Call> calls = new LinkedHashMap<>();
        calls.put("put on KEYS", () -> x.put(6, 1));
        calls.put("put on VALUES", () -> x.put(7, 1));
        calls.put("put NOTHING on RISING", () -> x.put(3, NOTHING));
        calls.put("put NOTHING on the QUEUE", () -> x.put(5, NOTHING));
        calls.put("putAll on KEYS", () -> x.putAll(6, 8, NONE, NONE, NONE));
        calls.put("putAll of none on VALUES", () -> x.putAll(7, NONE, NONE, NONE, NONE));
        calls.put("putAll with NOTHING on RISING", () -> x.putAll(3, 8, 9, NOTHING, NONE));
        calls.put("putAll with NOTHING on the QUEUE", () -> x.putAll(5, 8, 9, 8, NOTHING));
        for (int shelf : Checks.TAKE_NO_NOTHINGS) {
            calls.put("take NOTHING of " + shelf, () -> x.take(shelf, NOTHING));
            calls.put("has NOTHING on " + shelf, () -> x.has(shelf, NOTHING));
            calls.put("disjoint(0, " + shelf + ")", () -> x.disjoint(0, shelf));
            calls.put("disjoint(" + shelf + ", 0)", () -> x.disjoint(shelf, 0));
            calls.put("pour NOTHING on " + shelf, () -> x.pour(0, shelf));
            calls.put("pourRest with NOTHING on " + shelf, () -> x.pourRest(3, shelf));
        }
        calls.put("pour on KEYS", () -> x.pour(3, 6));
        calls.put("pour on VALUES", () -> x.pour(9, 7));
        calls.put("next of STALE", () -> x.next(0));
        calls.put("next without MORE", () -> x.next(4));
        calls.put("more of STALE", () -> x.more(0));
        calls.put("takeOut of STALE", () -> x.takeOut(0));
        calls.put("takeOut of an ENUMERATION", () -> x.takeOut(3));
        calls.put("takeOut over VALUES", () -> x.takeOut(2));
        calls.put("takeOut that gave none", () -> x.takeOut(5));
        calls.put("rest of STALE", () -> x.rest(0));
        calls.put("rest of an ITERATOR", () -> x.rest(1));
        calls.put("keepRest of STALE", () -> x.keepRest(0, 9));
        calls.put("keepRest of an ITERATOR", () -> x.keepRest(1, 9));
        calls.put("keepRest over that LIST", () -> x.keepRest(4, 8));
        calls.put("skip none of STALE", () -> x.skip(0, 0));
        calls.put("skip twelve of STALE", () -> x.skip(0, 12));
        calls.put("pourRest of STALE", () -> x.pourRest(0, 1));
        calls.put("pourRest of an ITERATOR", () -> x.pourRest(1, 2));
        calls.put("pourRest on KEYS", () -> x.pourRest(4, 6));
        calls.put("pourRest on VALUES", () -> x.pourRest(4, 7));
        calls.put("zip, the first STALE", () -> x.zip(0, 3));
        calls.put("zip, the second STALE", () -> x.zip(3, 0));
        calls.put("the least of none", () -> x.end(9, true));
        calls.put("the greatest with a NOTHING", () -> x.end(0, false));
        calls.put("the first of none", () -> x.first(9, false));
        calls.put("the last of none", () -> x.first(9, true));
        return calls;
    }

    private static void numbersAndRefusals() {
        sentence("Whole numbers. NONE is -1.", () -> {
            Overwalks x = new Overwalks();
            Checks.due("pair of a new KEY", x.pair(1, 2), -1);
            Checks.due("valueOf what is not there", x.valueOf(2), -1);
            Checks.due("placeOf what is not there", x.placeOf(0, 1, false), -1);
            Checks.due("ofWalk where none was made", x.ofWalk(0, 0), -1);
            Checks.due("putAll up to -1", x.putAll(0, 3, -1, 4, 5), 1);
            Checks.due("text", x.text(0), "3");
            Checks.badArgument(x, "put of -1", () -> x.put(0, -1));
        });
        sentence("REFUSED is -9, where a method names it (in texts \"!\")", () -> {
            Overwalks x = refuser();
            refusedCalls(x).forEach((call, made) -> {
                Object got = made.answer();
                Checks.due(call, got, got instanceof String ? "!" : (Object) (-9));
            });
            Checks.due("often names no REFUSED", x.often(3, NOTHING), 0);
        });
        sentence("nothing changes then, and it is counted", () -> {
            Overwalks x = refuser();
            refusedCalls(x).forEach((call, made) -> Checks.refused(x, call, made));
            Checks.due("house(4) of all", x.house(4), refusedCalls(x).size());
            Checks.due("what the ITERATOR gave last goes still", x.takeOut(1), 2);
            Checks.due("and just this", x.text(0), "- 2");
            Checks.due("it goes on", x.next(1), NOTHING);
            Checks.due("and takes out", x.takeOut(1), 1);
        });
        sentence("(exceptions go ahead of it)", DescriptionSentencesTest::exceptionsAheadOfRefused);
    }

    private static void exceptionsAheadOfRefused() {
        Overwalks x = refuser();
        for (int shelf : Checks.TABLE) {
            throwsDue(x, "put no THING on " + shelf, BAD_ARGUMENT, () -> x.put(shelf, 101));
            throwsDue(x, "putAll with no THING on " + shelf, BAD_ARGUMENT, () -> x.putAll(shelf, 1, 2, 3, 101));
        }
        throwsDue(x, "putAll NOTHING, no THING", BAD_ARGUMENT, () -> x.putAll(3, NOTHING, 101, 1, 1));
        throwsDue(x, "disjoint with no SHELF", NO_PLACE, () -> x.disjoint(0, 11));
        throwsDue(x, "pour from no SHELF on KEYS", NO_PLACE, () -> x.pour(11, 6));
        throwsDue(x, "keepRest of STALE, no LIST", NO_PLACE, () -> x.keepRest(0, 7));
        throwsDue(x, "keepRest of an ITERATOR, no LIST", NO_PLACE, () -> x.keepRest(1, 11));
        throwsDue(x, "skip of STALE, too many", BAD_ARGUMENT, () -> x.skip(0, 13));
        throwsDue(x, "pourRest of STALE, no SHELF", NO_PLACE, () -> x.pourRest(0, 11));
        throwsDue(x, "zip of STALE with itself", BAD_ARGUMENT, () -> x.zip(0, 0));
        throwsDue(x, "zip of STALE with no WALK", NO_PLACE, () -> x.zip(0, 6));
        x.drop(5);
        throwsDue(x, "zip of STALE with one that was not made", BAD_STATE, () -> x.zip(0, 5));

        x.copies(1, 1, 10);
        throwsDue(x, "pourRest of STALE, too many", BAD_STATE, () -> x.pourRest(0, 1));
        throwsDue(x, "pourRest of an ITERATOR, too many", BAD_STATE, () -> x.pourRest(1, 1));
        for (int shelf : new int[] {3, 5, 6, 7}) {
            Overwalks full = Checks.with(shelf, Checks.upTo(12));
            full.put(0, NOTHING);
            full.walk(0, 0, 0);
            throwsDue(full, "put on full " + shelf, BAD_STATE, () -> full.put(shelf, 1));
            throwsDue(full, "put NOTHING on full " + shelf, BAD_STATE, () -> full.put(shelf, NOTHING));
            throwsDue(full, "putAll on full " + shelf, BAD_STATE, () -> full.putAll(shelf, NOTHING, NONE, 1, 1));
            throwsDue(full, "pour on full " + shelf, BAD_STATE, () -> full.pour(0, shelf));
            throwsDue(full, "pourRest on full " + shelf, BAD_STATE, () -> full.pourRest(0, shelf));
        }
    }

    // ---- exceptions

    private static void throwsDue(Overwalks x, String call, Class<? extends RuntimeException> want,
            Checks.Call made) {
        Checks.throwsDue(x, call, want, made);
    }

    private static void exceptions() {
        sentence("A method that throws an exception changes nothing.", () -> {
            for (int row : Checks.ROWS) {
                for (int many : new int[] {1, 3, 11, 12}) {
                    throwsAllAndTakesOut(row, many);
                }
            }
        });
        sentence("If several exceptions apply, the one that is named first is thrown.", () -> {
            noPlaceGoesAhead();
            badArgumentGoesAhead();
        });
    }

    /** The WALK sees neither that something came or went, nor that its row was TURNED. */
    private static void throwsAllAndTakesOut(int row, int many) {
        Overwalks x = Checks.with(row, Checks.upTo(many));
        x.walk(0, row, 1);
        x.next(0);
        long ahead = x.digest();
        for (Map.Entry<String, Checks.Call> each : throwingCalls(x, row, many).entrySet()) {
            boolean threw = false;
            try {
                each.getValue().answer();
            } catch (IndexOutOfBoundsException | IllegalArgumentException | IllegalStateException e) {
                threw = true;
            }
            Checks.due(each.getKey() + " throws", threw, true);
            Checks.due("digest() behind " + each.getKey(), x.digest(), ahead);
        }
        Checks.due("takeOut behind all that threw, row " + row, x.takeOut(0), many - 1);
        Checks.due("the first one went", x.has(row, 1), 0);
    }

    private static Map<String, Checks.Call> throwingCalls(Overwalks x, int row, int many) {
        Map<String, Checks.Call> calls = new LinkedHashMap<>();
        int tooMany = 13 - many;
        calls.put("put(row, 101)", () -> x.put(row, 101));
        calls.put("putAll(row, 1, 1, 1, 101)", () -> x.putAll(row, 1, 1, 1, 101));
        calls.put("take(row, -1)", () -> x.take(row, -1));
        calls.put("clear(11)", () -> x.clear(11));
        calls.put("pair(1, 100)", () -> x.pair(1, 100));
        calls.put("pair(100, 1)", () -> x.pair(100, 1));
        calls.put("pour(row, 11)", () -> x.pour(row, 11));
        calls.put("pour(-1, row)", () -> x.pour(-1, row));
        calls.put("change(row, many, 1)", () -> x.change(row, many, 1));
        calls.put("change(row, 0, 101)", () -> x.change(row, 0, 101));
        calls.put("insert(row, many + 1, 1)", () -> x.insert(row, many + 1, 1));
        calls.put("insert(row, 0, -1)", () -> x.insert(row, 0, -1));
        calls.put("remove(row, many)", () -> x.remove(row, many));
        calls.put("remove(row, -1)", () -> x.remove(row, -1));
        calls.put("turn(5)", () -> x.turn(5));
        calls.put("rotate(row, 21)", () -> x.rotate(row, 21));
        calls.put("rotate(row, -21)", () -> x.rotate(row, -21));
        calls.put("swap(row, 0, many)", () -> x.swap(row, 0, many));
        calls.put("swap(row, -1, 0)", () -> x.swap(row, -1, 0));
        calls.put("fill(row, 101)", () -> x.fill(row, 101));
        calls.put("replace(row, 1, 101)", () -> x.replace(row, 1, 101));
        calls.put("replace(row, -1, 1)", () -> x.replace(row, -1, 1));
        calls.put("copies(row, 101, 0)", () -> x.copies(row, 101, 0));
        calls.put("copies(row, 1, tooMany)", () -> x.copies(row, 1, tooMany));
        calls.put("walk(0, 11, 1)", () -> x.walk(0, 11, 1));
        calls.put("walk(0, row, 3)", () -> x.walk(0, row, 3));
        calls.put("walk(6, row, 1)", () -> x.walk(6, row, 1));
        calls.put("next(6)", () -> x.next(6));
        calls.put("next(1)", () -> x.next(1));
        calls.put("takeOut(-1)", () -> x.takeOut(-1));
        calls.put("takeOut(1)", () -> x.takeOut(1));
        calls.put("rest(1)", () -> x.rest(1));
        calls.put("keepRest(0, 7)", () -> x.keepRest(0, 7));
        calls.put("keep(7, row)", () -> x.keep(7, row));
        calls.put("keep(10, 11)", () -> x.keep(10, 11));
        calls.put("drop(6)", () -> x.drop(6));
        calls.put("skip(0, 13)", () -> x.skip(0, 13));
        calls.put("skip(0, -1)", () -> x.skip(0, -1));
        calls.put("pourRest(0, 11)", () -> x.pourRest(0, 11));
        calls.put("zip(0, 0)", () -> x.zip(0, 0));
        calls.put("zip(0, 1)", () -> x.zip(0, 1));
        calls.put("zip(0, 6)", () -> x.zip(0, 6));
        if (many > 6) {
            calls.put("pour(row, row)", () -> x.pour(row, row));
            calls.put("pourRest(0, row)", () -> x.pourRest(0, row));
        }
        if (many > 8) {
            calls.put("putAll(row, 1, 2, 3, 4)", () -> x.putAll(row, 1, 2, 3, 4));
        }
        if (many == 12) {
            calls.put("put(row, 1)", () -> x.put(row, 1));
            calls.put("insert(row, 0, 1)", () -> x.insert(row, 0, 1));
        }
        return calls;
    }

    private static void noPlaceGoesAhead() {
        Overwalks x = new Overwalks();
        x.copies(0, 1, 12);
        x.copies(1, 1, 12);
        throwsDue(x, "put", NO_PLACE, () -> x.put(11, 101));
        throwsDue(x, "putAll", NO_PLACE, () -> x.putAll(11, -2, -2, -2, -2));
        throwsDue(x, "take", NO_PLACE, () -> x.take(-1, -1));
        throwsDue(x, "pour from none on a full one", NO_PLACE, () -> x.pour(11, 0));
        throwsDue(x, "pour from a full one on none", NO_PLACE, () -> x.pour(0, 11));
        throwsDue(x, "change, none of the ROWS", NO_PLACE, () -> x.change(3, 0, 101));
        throwsDue(x, "change, no PLACE", NO_PLACE, () -> x.change(0, 12, 101));
        throwsDue(x, "insert, none of the ROWS", NO_PLACE, () -> x.insert(5, 0, 101));
        throwsDue(x, "insert, no PLACE, no THING, full", NO_PLACE, () -> x.insert(0, 13, 101));
        throwsDue(x, "insert, no PLACE, full", NO_PLACE, () -> x.insert(0, -1, 1));
        throwsDue(x, "rotate", NO_PLACE, () -> x.rotate(4, 21));
        throwsDue(x, "fill", NO_PLACE, () -> x.fill(6, 101));
        throwsDue(x, "replace", NO_PLACE, () -> x.replace(7, 101, 101));
        throwsDue(x, "copies", NO_PLACE, () -> x.copies(3, 101, 13));
        throwsDue(x, "walk, no WALK", NO_PLACE, () -> x.walk(6, 0, 3));
        throwsDue(x, "walk, no SHELF", NO_PLACE, () -> x.walk(0, 11, 3));
        throwsDue(x, "ELEMENTS of no SHELF", NO_PLACE, () -> x.walk(0, 11, 2));
        throwsDue(x, "keepRest, not made, no LIST", NO_PLACE, () -> x.keepRest(0, 7));
        throwsDue(x, "skip", NO_PLACE, () -> x.skip(6, 13));
        throwsDue(x, "pourRest, not made, no SHELF", NO_PLACE, () -> x.pourRest(0, 11));
        throwsDue(x, "zip of the same that is none", NO_PLACE, () -> x.zip(6, 6));
        throwsDue(x, "zip of one not made and none", NO_PLACE, () -> x.zip(0, 6));
        throwsDue(x, "zip of none and one not made", NO_PLACE, () -> x.zip(-1, 0));
        throwsDue(x, "has", NO_PLACE, () -> x.has(11, 101));
        throwsDue(x, "often", NO_PLACE, () -> x.often(-1, 101));
        throwsDue(x, "placeOf", NO_PLACE, () -> x.placeOf(5, 101, true));
        throwsDue(x, "ofWalk", NO_PLACE, () -> x.ofWalk(6, 4));
    }

    private static void badArgumentGoesAhead() {
        Overwalks x = new Overwalks();
        x.copies(0, 1, 12);
        Checks.lay(x, 6, Checks.upTo(12));
        throwsDue(x, "put on a full one", BAD_ARGUMENT, () -> x.put(0, 101));
        throwsDue(x, "putAll on a full one", BAD_ARGUMENT, () -> x.putAll(0, 1, 1, 1, -2));
        throwsDue(x, "pair with 12, no KEY", BAD_ARGUMENT, () -> x.pair(100, 1));
        throwsDue(x, "pair with 12, no VALUE", BAD_ARGUMENT, () -> x.pair(50, 100));
        throwsDue(x, "insert on a full one", BAD_ARGUMENT, () -> x.insert(0, 0, 101));
        throwsDue(x, "copies on a full one, no THING", BAD_ARGUMENT, () -> x.copies(0, 101, 12));
        throwsDue(x, "copies on a full one, not 0 to 12", BAD_ARGUMENT, () -> x.copies(0, 1, 13));
        throwsDue(x, "skip, not made", BAD_ARGUMENT, () -> x.skip(0, 13));
        throwsDue(x, "zip of the same, not made", BAD_ARGUMENT, () -> x.zip(0, 0));
    }

    // ---- shelves

    private static void things() {
        sentence("THINGS are numbers 0 to 99", () -> {
            for (int shelf : Checks.SHELVES) {
                for (int thing = 0; thing <= 99; thing++) {
                    Overwalks x = Checks.with(shelf, thing);
                    Checks.due("text(" + shelf + ")", x.text(shelf), Integer.toString(thing));
                    Checks.due("first(" + shelf + ")", x.first(shelf, false), thing);
                    Checks.due("take from " + shelf, x.take(shelf, thing), 1);
                }
            }
            Overwalks x = new Overwalks();
            for (int thing : Checks.NO_THINGS_OR_NOTHING) {
                for (int shelf : Checks.SHELVES) {
                    Checks.badArgument(x, "put(" + shelf + ", " + thing + ")", () -> x.put(shelf, thing));
                }
            }
        });
        sentence("NOTHING is told (and named) as 100, in texts as \"-\".", () -> {
            for (int shelf : Checks.TAKE_NOTHINGS) {
                Overwalks x = Checks.with(shelf, 100);
                Checks.due("first(" + shelf + ")", x.first(shelf, true), 100);
                Checks.due("has(" + shelf + ")", x.has(shelf, 100), 1);
                Checks.due("text(" + shelf + ")", x.text(shelf), "-");
                Checks.due("list(" + shelf + ")", x.list(shelf), "-");
                x.walk(0, shelf, 0);
                x.walk(1, shelf, 1);
                x.walk(2, shelf, 1);
                Checks.due("next", x.next(2), 100);
                Checks.due("zip", x.zip(0, 1), "-/-");
                x.walk(0, shelf, 0);
                Checks.due("rest", x.rest(0), "-");
                Checks.due("take", x.take(shelf, 100), 1);
            }
            for (int row : Checks.ROWS) {
                Overwalks x = Checks.with(row, 100);
                Checks.due("swap", x.swap(row, 0, 0), 100);
                Checks.due("change from NOTHING", x.change(row, 0, 5), 100);
                Checks.due("change to NOTHING", x.change(row, 0, 100), 5);
                Checks.due("placeOf", x.placeOf(row, 100, false), 0);
                Checks.due("remove", x.remove(row, 0), 100);
            }
        });
    }

    private static void shelves() {
        sentence("SHELVES 0 to 10, empty at first", () -> {
            Overwalks x = new Overwalks();
            for (int shelf : Checks.SHELVES) {
                Checks.due("size(" + shelf + ")", x.size(shelf), 0);
                Checks.due("text(" + shelf + ")", x.text(shelf), "");
                Checks.due("isEmpty(" + shelf + ")", x.isEmpty(shelf), true);
            }
            for (int shelf : Checks.NO_SHELVES) {
                Checks.noPlace(x, "size(" + shelf + ")", () -> x.size(shelf));
                Checks.noPlace(x, "put(" + shelf + ", 1)", () -> x.put(shelf, 1));
            }
        });
        sentence("on each at most 12 lie (THINGS, and NOTHINGS, where it TAKES NOTHINGS)", () -> {
            for (int shelf : Checks.SHELVES) {
                twelveLieAndNoMore(shelf);
            }
            for (int row : Checks.ROWS) {
                Overwalks x = new Overwalks();
                Checks.due("12 NOTHINGS", x.copies(row, NOTHING, 12), 12);
                Checks.badState(x, "a 13th on " + row, () -> x.put(row, NOTHING));
            }
            Overwalks kept = Checks.with(4, 1, 2, 3, 4, 5, 6, 7, 8, 9, 10, 11, NOTHING);
            Checks.due("11 THINGS and NOTHING on KEPT", kept.size(4), 12);
            Checks.badState(kept, "a 13th on KEPT", () -> kept.put(4, 12));
        });
        sentence("ROWS are the SHELVES 0, 1, 2, 8, 9, 10.", () -> {
            for (int row : new int[] {0, 1, 2, 8, 9, 10}) {
                Overwalks x = new Overwalks();
                Checks.due("insert", x.insert(row, 0, 4), 1);
                Checks.due("change", x.change(row, 0, 5), 4);
                Checks.due("turn", x.turn(row), 1);
                Checks.due("rotate", x.rotate(row, 1), 1);
                Checks.due("swap", x.swap(row, 0, 0), 5);
                Checks.due("replace", x.replace(row, 5, 6), 1);
                Checks.due("fill", x.fill(row, 7), 1);
                Checks.due("copies", x.copies(row, 8, 1), 2);
                Checks.due("placeOf", x.placeOf(row, 8, false), 1);
                Checks.due("remove", x.remove(row, 0), 7);
            }
            for (int other : Checks.NO_ROWS) {
                isNoneOfTheRows(other);
            }
        });
        sentence("As a text a SHELF is what lies there in SEQUENCE with a blank between two.", () -> {
            for (int shelf : Checks.SHELVES) {
                StringBuilder text = new StringBuilder();
                Overwalks x = new Overwalks();
                for (int thing = 5; thing <= 16; thing++) {
                    Checks.due("text(" + shelf + ")", x.text(shelf), text.toString());
                    Checks.lay(x, shelf, thing);
                    text.append(text.length() == 0 ? "" : " ").append(thing);
                }
                Checks.due("text of 12", x.text(shelf), "5 6 7 8 9 10 11 12 13 14 15 16");
            }
            Checks.due("with NOTHINGS", Checks.with(2, NOTHING, NOTHING, 0, NOTHING).text(2), "- - 0 -");
        });
    }

    private static void twelveLieAndNoMore(int shelf) {
        int other = shelf == 1 ? 2 : 1;
        Overwalks x = Checks.with(shelf, Checks.upTo(12));
        Checks.due("size(" + shelf + ")", x.size(shelf), 12);
        x.put(other, 50);
        x.walk(0, other, 0);
        Checks.badState(x, "put on " + shelf, () -> x.put(shelf, 50));
        Checks.badState(x, "putAll on " + shelf, () -> x.putAll(shelf, 50, NONE, NONE, NONE));
        Checks.badState(x, "pour on " + shelf, () -> x.pour(other, shelf));
        Checks.badState(x, "pourRest on " + shelf, () -> x.pourRest(0, shelf));
        if (shelf == 6 || shelf == 7) {
            Checks.badState(x, "pair", () -> x.pair(50, 1));
        }
        if (Checks.isAmong(Checks.ROWS, shelf)) {
            Checks.badState(x, "insert on " + shelf, () -> x.insert(shelf, 12, 50));
            Checks.badState(x, "copies on " + shelf, () -> x.copies(shelf, 50, 1));
        }
    }

    private static void isNoneOfTheRows(int other) {
        boolean isShelf = other >= 0 && other <= 10;
        Overwalks x = isShelf ? Checks.with(other, 1, 2) : new Overwalks();
        Checks.noPlace(x, "change of " + other, () -> x.change(other, 0, 5));
        Checks.noPlace(x, "insert of " + other, () -> x.insert(other, 0, 5));
        Checks.noPlace(x, "remove of " + other, () -> x.remove(other, 0));
        Checks.noPlace(x, "turn of " + other, () -> x.turn(other));
        Checks.noPlace(x, "rotate of " + other, () -> x.rotate(other, 1));
        Checks.noPlace(x, "swap of " + other, () -> x.swap(other, 0, 1));
        Checks.noPlace(x, "fill of " + other, () -> x.fill(other, 5));
        Checks.noPlace(x, "replace of " + other, () -> x.replace(other, 1, 5));
        Checks.noPlace(x, "copies of " + other, () -> x.copies(other, 5, 1));
        Checks.noPlace(x, "placeOf of " + other, () -> x.placeOf(other, 1, false));
    }

    private static void kindsOfShelves() {
        sentence("0 VECTOR, 1 ROW, 2 CHAIN: rows, with PLACES from 0 on; they TAKE NOTHINGS.", () -> {
            for (int row : new int[] {0, 1, 2}) {
                isRowWithPlaces(row);
            }
        });
        sentence("8 to 10 LISTS: rows with PLACES; they TAKE NOTHINGS.", () -> {
            for (int row : Checks.LISTS) {
                isRowWithPlaces(row);
                Overwalks x = Checks.with(3, 4, 5);
                Checks.due("a LIST is made", x.keep(row, 3), 2);
            }
            Overwalks x = new Overwalks();
            for (int other : Checks.NO_LISTS) {
                Checks.noPlace(x, "keep(" + other + ", 0)", () -> x.keep(other, 0));
            }
        });
        sentence("3 RISING: each THING once, by rising numbers; no NOTHINGS.", () -> {
            Overwalks x = Checks.with(3, 50, 99, 0, 50, 49, 51, 0, 99);
            Checks.due("text", x.text(3), "0 49 50 51 99");
            for (int thing = 0; thing <= 99; thing++) {
                Overwalks y = Checks.with(3, 20, 40, 60);
                y.put(3, thing);
                Checks.due("often " + thing, y.often(3, thing), 1);
                Checks.due("sound with " + thing, y.isSound(), true);
            }
            Checks.refused(x, "NOTHING", () -> x.put(3, NOTHING));
        });
        sentence("4 KEPT: each once, NOTHING too, in the sequence in which they were put"
                + " (what is there already stays where it is); it TAKES NOTHINGS.", () -> {
            Overwalks x = Checks.with(4, 9, NOTHING, 3, 0, 99);
            Checks.due("text", x.text(4), "9 - 3 0 99");
            for (int thing : new int[] {9, NOTHING, 3, 0, 99}) {
                Checks.due("put again", x.put(4, thing), 0);
                Checks.due("stays", x.text(4), "9 - 3 0 99");
            }
            x.take(4, 9);
            x.take(4, NOTHING);
            x.put(4, 9);
            x.put(4, NOTHING);
            Checks.due("what went comes behind all", x.text(4), "3 0 99 9 -");
        });
        sentence("5 QUEUE: a row without PLACES; no NOTHINGS.", () -> {
            Overwalks x = Checks.with(5, 3, 1, 3, 2);
            Checks.due("text", x.text(5), "3 1 3 2");
            Checks.refused(x, "NOTHING", () -> x.put(5, NOTHING));
            isNoneOfTheRows(5);
        });
        tableSentences();
    }

    private static void isRowWithPlaces(int row) {
        Overwalks x = Checks.with(row, 4, NOTHING, 4, NOTHING, 2);
        Checks.due("text(" + row + ")", x.text(row), "4 - 4 - 2");
        Checks.due("PLACE 0", x.change(row, 0, 5), 4);
        Checks.due("PLACE 4, the last", x.change(row, 4, 6), 2);
        Checks.noPlace(x, "PLACE 5", () -> x.change(row, 5, 6));
        Checks.noPlace(x, "PLACE -1", () -> x.change(row, -1, 6));
        Checks.due("placeOf NOTHING", x.placeOf(row, NOTHING, true), 3);
    }

    private static void tableSentences() {
        sentence("the TABLE has pairs of a KEY and a VALUE (THINGS; each KEY once) by rising KEYS;"
                + " KEYS are these, VALUES in the same sequence what goes with them"
                + " (the same VALUE may stand there several times)", () -> {
            Overwalks x = new Overwalks();
            x.pair(50, 1);
            x.pair(99, 7);
            x.pair(0, 7);
            x.pair(49, 0);
            x.pair(50, 7);
            x.pair(51, 99);
            Checks.due("KEYS", x.text(6), "0 49 50 51 99");
            Checks.due("VALUES", x.text(7), "7 0 7 99 7");
            Checks.due("often on VALUES", x.often(7, 7), 3);
            Checks.badArgument(x, "NOTHING as a KEY", () -> x.pair(NOTHING, 1));
            Checks.badArgument(x, "NOTHING as a VALUE", () -> x.pair(1, NOTHING));
        });
        sentence("nothing can be put there but by pair(), and no NOTHINGS.", () -> {
            for (int shelf : Checks.TABLE) {
                Overwalks x = Checks.with(shelf, 1, 2);
                x.putAll(1, 1, 5, NONE, NONE);
                x.walk(0, 1, 0);
                Checks.refused(x, "put", () -> x.put(shelf, 5));
                Checks.refused(x, "put of what is there", () -> x.put(shelf, 1));
                Checks.refused(x, "put of NOTHING", () -> x.put(shelf, NOTHING));
                Checks.refused(x, "putAll", () -> x.putAll(shelf, 5, 6, NONE, NONE));
                Checks.refused(x, "putAll of none", () -> x.putAll(shelf, NONE, 5, 6, 7));
                Checks.refused(x, "pour", () -> x.pour(1, shelf));
                Checks.refused(x, "pour of an empty SHELF", () -> x.pour(2, shelf));
                Checks.refused(x, "pour on itself", () -> x.pour(shelf, shelf));
                Checks.refused(x, "pourRest", () -> x.pourRest(0, shelf));
                isNoneOfTheRows(shelf);
                Checks.due("pair", x.pair(5, 6), NONE);
                Checks.due("KEYS", x.text(6), "1 2 5");
                Checks.due("VALUES", x.text(7), "1 2 6");
            }
        });
    }

    private static void put() {
        sentence("PUT: on ROWS and the QUEUE it comes behind all", () -> {
            for (int shelf : new int[] {0, 1, 2, 5, 8, 9, 10}) {
                Overwalks x = Checks.with(shelf, 5, 9, 5, 1, 5);
                Checks.due("put on " + shelf, x.text(shelf), "5 9 5 1 5");
                x.putAll(shelf, 1, 9, NONE, NONE);
                Checks.due("putAll on " + shelf, x.text(shelf), "5 9 5 1 5 1 9");
                Overwalks y = Checks.with(3, 1, 9);
                Checks.lay(y, shelf, 3);
                y.walk(0, 3, 0);
                y.pour(3, shelf);
                y.pourRest(0, shelf);
                Checks.due("poured on " + shelf, y.text(shelf), "3 1 9 1 9");
            }
        });
        sentence("PUT: on RISING and KEPT only if it is not there.", () -> {
            for (int shelf : new int[] {3, 4}) {
                Overwalks x = Checks.with(shelf, 2, 5, 8);
                Checks.due("put of what is there", x.put(shelf, 5), 0);
                Checks.due("putAll of what is there", x.putAll(shelf, 8, 2, 5, 8), 0);
                Checks.lay(x, 1, 8, 5, 2);
                Checks.due("pour of what is there", x.pour(1, shelf), 0);
                x.walk(0, 1, 0);
                Checks.due("pourRest gives what is there", x.pourRest(0, shelf), 3);
                Checks.due("all stays", x.text(shelf), "2 5 8");
                Checks.due("twice at once", x.putAll(shelf, 9, 9, 9, 9), 1);
                Checks.due("comes once", x.text(shelf), "2 5 8 9");
            }
        });
    }
}
