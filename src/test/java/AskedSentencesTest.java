import java.util.ArrayList;
import java.util.Arrays;
import java.util.Collections;
import java.util.List;

/** Promises 28 to 45, sentence by sentence. */
public final class AskedSentencesTest {
    private static final int NONE = Checks.NONE;
    private static final int NOTHING = Checks.NOTHING;

    /** A question of one SHELF. */
    private interface ShelfQuestion {
        Object answer(Overwalks x, int shelf);
    }

    /** A question of two SHELVES, or of one and a THING. */
    private interface TwoNumbersQuestion {
        Object answer(Overwalks x, int one, int other);
    }

    public static void main(String[] args) {
        promise28Text();
        promise29List();
        promise30Size();
        promise31IsEmpty();
        promise32Has();
        promise33Often();
        promise34PlaceOf();
        promise35Disjoint();
        promise36End();
        promise37Code();
        promise38AreAlike();
        promise39First();
        promise40ValueOf();
        promise41OfWalk();
        promise42House();
        promise42HouseCounts();
        promise43Knock();
        promise44IsSound();
        promise45Digest();
        Checks.end();
    }

    private static void throwsIfThereIsNoSuchShelf(int promise, ShelfQuestion question) {
        Checks.sentence(promise, "Throws IndexOutOfBoundsException if there is no such SHELF", () -> {
            Overwalks x = Checks.with(0, 1);
            for (int shelf : Checks.NO_SHELVES) {
                Checks.noPlace(x, "SHELF " + shelf, () -> question.answer(x, shelf));
            }
        });
    }

    private static void throwsIfThereIsNoSuchShelfOfBoth(int promise, TwoNumbersQuestion question) {
        Checks.sentence(promise, "Throws IndexOutOfBoundsException if there is no such SHELF (both)", () -> {
            Overwalks x = Checks.with(0, NOTHING);
            for (int bad : Checks.NO_SHELVES) {
                for (int shelf : Checks.SHELVES) {
                    Checks.noPlace(x, bad + ", " + shelf, () -> question.answer(x, bad, shelf));
                    Checks.noPlace(x, shelf + ", " + bad, () -> question.answer(x, shelf, bad));
                }
                Checks.noPlace(x, "both " + bad, () -> question.answer(x, bad, bad));
            }
        });
    }

    private static void throwsIfThingIsNot0To100(int promise, int[] shelves, TwoNumbersQuestion question) {
        Checks.sentence(promise, "Throws IllegalArgumentException if thing is not 0 to 100", () -> {
            for (int shelf : shelves) {
                Overwalks x = Checks.with(shelf, 0, 99);
                for (int thing : Checks.NO_THINGS_OR_NOTHING) {
                    Checks.badArgument(x, shelf + ", " + thing, () -> question.answer(x, shelf, thing));
                }
            }
        });
    }

    private static String textUpTo(int many) {
        StringBuilder text = new StringBuilder();
        for (int thing : Checks.upTo(many)) {
            text.append(thing == 1 ? "" : " ").append(thing);
        }
        return text.toString();
    }

    private static void isTheText(ShelfQuestion question) {
        for (int shelf : Checks.SHELVES) {
            for (int many : Checks.FILLINGS) {
                Overwalks x = Checks.with(shelf, Checks.upTo(many));
                Checks.onlyAsks(x, many + " on " + shelf, () -> question.answer(x, shelf), textUpTo(many));
            }
            Overwalks x = Checks.with(shelf, 0, 9, 10, 99);
            Checks.onlyAsks(x, "on " + shelf, () -> question.answer(x, shelf), "0 9 10 99");
        }
        for (int shelf : Checks.TAKE_NOTHINGS) {
            Overwalks x = Checks.with(shelf, 5, NOTHING, 3);
            Checks.onlyAsks(x, "NOTHING on " + shelf, () -> question.answer(x, shelf), "5 - 3");
        }
    }

    private static void promise28Text() {
        Checks.sentence(28, "Returns it as a text, by an ITERATOR.", () -> isTheText(Overwalks::text));
        throwsIfThereIsNoSuchShelf(28, Overwalks::text);
    }

    private static void promise29List() {
        Checks.sentence(29, "Returns it as a text, by a list of an ENUMERATION.", () -> isTheText(Overwalks::list));
        throwsIfThereIsNoSuchShelf(29, Overwalks::list);
    }

    private static void promise30Size() {
        Checks.sentence(30, "Returns how many lie there.", () -> {
            for (int shelf : Checks.SHELVES) {
                for (int many : Checks.FILLINGS) {
                    Overwalks x = Checks.with(shelf, Checks.upTo(many));
                    for (int each : Checks.SHELVES) {
                        boolean isOfTable = (shelf == 6 || shelf == 7) && (each == 6 || each == 7);
                        Checks.onlyAsks(x, many + " on " + shelf + ": size(" + each + ")",
                                () -> x.size(each), each == shelf || isOfTable ? many : 0);
                    }
                }
            }
        });
        throwsIfThereIsNoSuchShelf(30, Overwalks::size);
    }

    private static void promise31IsEmpty() {
        Checks.sentence(31, "Returns whether none lies there.", () -> {
            for (int shelf : Checks.SHELVES) {
                for (int many : Checks.FILLINGS) {
                    Overwalks x = Checks.with(shelf, Checks.upTo(many));
                    Checks.onlyAsks(x, many + " on " + shelf, () -> x.isEmpty(shelf), many == 0);
                    x.clear(shelf);
                    Checks.onlyAsks(x, "none on " + shelf, () -> x.isEmpty(shelf), true);
                }
            }
            for (int shelf : Checks.TAKE_NOTHINGS) {
                Checks.due("NOTHING on " + shelf, Checks.with(shelf, NOTHING).isEmpty(shelf), false);
            }
        });
        throwsIfThereIsNoSuchShelf(31, Overwalks::isEmpty);
    }

    private static void promise32Has() {
        Checks.sentence(32, "Returns 1 if it lies there, 0 if not", () -> {
            for (int shelf : Checks.SHELVES) {
                for (int many : Checks.FILLINGS) {
                    Overwalks x = Checks.with(shelf, Checks.upTo(many));
                    for (int thing = 0; thing <= 99; thing++) {
                        int lies = thing >= 1 && thing <= many ? 1 : 0;
                        int asked = thing;
                        Checks.due("has(" + shelf + ", " + thing + ") of " + many, x.has(shelf, asked), lies);
                    }
                    Checks.onlyAsks(x, "0", () -> x.has(shelf, 0), 0);
                }
            }
            for (int shelf : Checks.TAKE_NOTHINGS) {
                Overwalks x = Checks.with(shelf, 1, 2);
                Checks.onlyAsks(x, "no NOTHING", () -> x.has(shelf, NOTHING), 0);
                x.put(shelf, NOTHING);
                Checks.onlyAsks(x, "NOTHING", () -> x.has(shelf, NOTHING), 1);
            }
        });
        Checks.sentence(32, "REFUSED if it is NOTHING, and the SHELF does not TAKE it.", () -> {
            for (int shelf : Checks.TAKE_NO_NOTHINGS) {
                for (int many : Checks.FILLINGS) {
                    Overwalks x = Checks.with(shelf, Checks.upTo(many));
                    Checks.refused(x, "has(" + shelf + ", NOTHING)", () -> x.has(shelf, NOTHING));
                }
            }
        });
        throwsIfThereIsNoSuchShelf(32, (x, shelf) -> x.has(shelf, 1));
        throwsIfThingIsNot0To100(32, Checks.SHELVES, Overwalks::has);
    }

    private static void promise33Often() {
        Checks.sentence(33, "Returns how often it lies there (Collections.frequency; of NOTHING, too).", () -> {
            for (int shelf : new int[] {0, 1, 2, 5, 8, 9, 10}) {
                for (int many : Checks.FILLINGS) {
                    Overwalks x = new Overwalks();
                    for (int i = 0; i < many; i++) {
                        x.put(shelf, 99);
                    }
                    if (many < 12) {
                        x.put(shelf, 0);
                    }
                    Checks.onlyAsks(x, many + " on " + shelf, () -> x.often(shelf, 99), many);
                    Checks.onlyAsks(x, "0", () -> x.often(shelf, 0), many < 12 ? 1 : 0);
                    Checks.onlyAsks(x, "none", () -> x.often(shelf, 1), 0);
                }
            }
            for (int row : Checks.ROWS) {
                for (int many : Checks.FILLINGS) {
                    Overwalks x = new Overwalks();
                    x.copies(row, NOTHING, many);
                    Checks.onlyAsks(x, many + " NOTHINGS on " + row, () -> x.often(row, NOTHING), many);
                }
            }
            for (int shelf : new int[] {3, 4, 6}) {
                Overwalks x = Checks.with(shelf, 5, 5, 6);
                Checks.onlyAsks(x, "once on " + shelf, () -> x.often(shelf, 5), 1);
            }
            Overwalks kept = Checks.with(4, 5, NOTHING, NOTHING);
            Checks.onlyAsks(kept, "NOTHING on KEPT", () -> kept.often(4, NOTHING), 1);
            Overwalks table = new Overwalks();
            for (int key = 1; key <= 12; key++) {
                table.pair(key, 7);
            }
            Checks.onlyAsks(table, "12 VALUES", () -> table.often(7, 7), 12);
            for (int shelf : Checks.TAKE_NO_NOTHINGS) {
                Overwalks x = Checks.with(shelf, 1, 2);
                Checks.onlyAsks(x, "NOTHING on " + shelf, () -> x.often(shelf, NOTHING), 0);
            }
        });
        throwsIfThereIsNoSuchShelf(33, (x, shelf) -> x.often(shelf, 1));
        throwsIfThingIsNot0To100(33, Checks.SHELVES, Overwalks::often);
    }

    private static void promise34PlaceOf() {
        Checks.sentence(34, "Returns the first (or last) PLACE where it lies", () -> {
            for (int row : Checks.ROWS) {
                for (int thing : new int[] {0, 50, 99, NOTHING}) {
                    for (int first = 0; first < 12; first++) {
                        for (int last = first; last < 12; last++) {
                            findsBothPlaces(row, thing, first, last);
                        }
                    }
                }
            }
        });
        Checks.sentence(34, "NONE without.", () -> {
            for (int row : Checks.ROWS) {
                for (int many : Checks.FILLINGS) {
                    Overwalks x = Checks.with(row, Checks.upTo(many));
                    for (int thing : new int[] {0, many + 1, 99, NOTHING}) {
                        Checks.onlyAsks(x, "first " + thing, () -> x.placeOf(row, thing, false), NONE);
                        Checks.onlyAsks(x, "last " + thing, () -> x.placeOf(row, thing, true), NONE);
                    }
                }
            }
        });
        Checks.sentence(34, "Throws IndexOutOfBoundsException if row is none of the ROWS", () -> {
            for (int row : Checks.NO_ROWS) {
                Overwalks x = row >= 0 && row <= 10 ? Checks.with(row, 1, 2) : new Overwalks();
                Checks.noPlace(x, "the first on " + row, () -> x.placeOf(row, 1, false));
                Checks.noPlace(x, "the last on " + row, () -> x.placeOf(row, 1, true));
            }
        });
        throwsIfThingIsNot0To100(34, Checks.ROWS, (x, row, thing) -> x.placeOf(row, thing, true));
        throwsIfThingIsNot0To100(34, Checks.ROWS, (x, row, thing) -> x.placeOf(row, thing, false));
    }

    private static void findsBothPlaces(int row, int thing, int first, int last) {
        Overwalks x = Checks.with(row, Checks.upTo(12));
        x.change(row, first, thing);
        x.change(row, (first + last) / 2, thing);
        x.change(row, last, thing);
        Checks.due("the first " + thing, x.placeOf(row, thing, false), first);
        Checks.due("the last " + thing, x.placeOf(row, thing, true), last);
    }

    private static void promise35Disjoint() {
        Checks.sentence(35, "Returns 1 if nothing lies on both, 0 if something does (Collections.disjoint)", () -> {
            for (int one : Checks.SHELVES) {
                for (int other : Checks.SHELVES) {
                    if (!haveTheSame(one, other)) {
                        tellsDisjoint(one, other);
                    }
                }
            }
            for (int one : Checks.TAKE_NOTHINGS) {
                for (int other : Checks.TAKE_NOTHINGS) {
                    if (one != other) {
                        Overwalks x = Checks.with(one, NOTHING, 1);
                        Checks.lay(x, other, 2);
                        Checks.onlyAsks(x, "NOTHING on one", () -> x.disjoint(one, other), 1);
                        Checks.onlyAsks(x, "NOTHING on the other", () -> x.disjoint(other, one), 1);
                        Checks.lay(x, other, NOTHING);
                        Checks.onlyAsks(x, "NOTHING on both", () -> x.disjoint(one, other), 0);
                    }
                }
            }
            Overwalks table = new Overwalks();
            table.pair(1, 2);
            table.pair(3, 4);
            Checks.onlyAsks(table, "KEYS and VALUES", () -> table.disjoint(6, 7), 1);
            table.pair(3, 1);
            Checks.onlyAsks(table, "a KEY that is a VALUE", () -> table.disjoint(7, 6), 0);
        });
        Checks.sentence(35, "other: a SHELF, or the same", () -> {
            for (int shelf : Checks.SHELVES) {
                Overwalks x = new Overwalks();
                Checks.onlyAsks(x, "the empty " + shelf, () -> x.disjoint(shelf, shelf), 1);
                Checks.lay(x, shelf, 5);
                Checks.onlyAsks(x, "one on " + shelf, () -> x.disjoint(shelf, shelf), 0);
            }
            for (int shelf : Checks.TAKE_NOTHINGS) {
                Overwalks x = Checks.with(shelf, NOTHING);
                Checks.onlyAsks(x, "NOTHING on " + shelf, () -> x.disjoint(shelf, shelf), 0);
            }
        });
        Checks.sentence(35, "REFUSED if NOTHING lies on one of both, and the other one does not TAKE it"
                + " (also if none lies there).", () -> {
            for (int one : Checks.TAKE_NOTHINGS) {
                for (int other : Checks.TAKE_NO_NOTHINGS) {
                    for (int many : new int[] {0, 1, 12}) {
                        Overwalks x = Checks.with(one, 1, 50, NOTHING);
                        Checks.lay(x, other, Checks.upTo(many));
                        Checks.refused(x, one + ", " + other, () -> x.disjoint(one, other));
                        Checks.refused(x, other + ", " + one, () -> x.disjoint(other, one));
                        x.take(one, NOTHING);
                        int want = many == 0 ? 1 : 0;
                        Checks.onlyAsks(x, "without NOTHING", () -> x.disjoint(one, other), want);
                        Checks.onlyAsks(x, "without NOTHING", () -> x.disjoint(other, one), want);
                    }
                }
            }
        });
        throwsIfThereIsNoSuchShelfOfBoth(35, Overwalks::disjoint);
    }

    /** The pairs of these tests have the same as KEY and VALUE. */
    private static boolean haveTheSame(int one, int other) {
        return one == other || Checks.isAmong(Checks.TABLE, one) && Checks.isAmong(Checks.TABLE, other);
    }

    private static void tellsDisjoint(int one, int other) {
        Overwalks x = new Overwalks();
        Checks.onlyAsks(x, "both empty", () -> x.disjoint(one, other), 1);
        Checks.lay(x, one, 1, 2, 3);
        Checks.onlyAsks(x, other + " empty", () -> x.disjoint(one, other), 1);
        Checks.onlyAsks(x, other + " empty", () -> x.disjoint(other, one), 1);
        Checks.lay(x, other, 5, 6);
        Checks.onlyAsks(x, one + ", " + other, () -> x.disjoint(one, other), 1);
        Checks.lay(x, one, 6);
        Checks.onlyAsks(x, "the last of both, " + one + ", " + other, () -> x.disjoint(one, other), 0);
        Checks.lay(x, other, 1);
        x.take(one, 6);
        Checks.onlyAsks(x, "the first and the last", () -> x.disjoint(one, other), 0);
    }

    private static void promise36End() {
        Checks.sentence(36, "Returns the THING with the smallest (or greatest) number (Collections.min, max)", () -> {
            for (int shelf : Checks.SHELVES) {
                for (int many = 1; many <= 12; many++) {
                    Overwalks x = Checks.with(shelf, Checks.upTo(many));
                    int greatest = many;
                    Checks.onlyAsks(x, "the least of " + many, () -> x.end(shelf, true), 1);
                    Checks.onlyAsks(x, "the greatest of " + many, () -> x.end(shelf, false), greatest);
                }
                Overwalks x = Checks.with(shelf, 50, 0, 99, 7);
                Checks.onlyAsks(x, "0", () -> x.end(shelf, true), 0);
                Checks.onlyAsks(x, "99", () -> x.end(shelf, false), 99);
                Overwalks y = Checks.with(shelf, 99, 50, 0);
                Checks.onlyAsks(y, "0 at the end", () -> y.end(shelf, true), 0);
                Checks.onlyAsks(y, "99 at the beginning", () -> y.end(shelf, false), 99);
            }
        });
        Checks.sentence(36, "REFUSED if none lies there", () -> {
            for (int shelf : Checks.SHELVES) {
                Overwalks x = new Overwalks();
                Checks.refused(x, "the least", () -> x.end(shelf, true));
                Checks.refused(x, "the greatest", () -> x.end(shelf, false));
                Checks.lay(x, shelf, 1);
                x.clear(shelf);
                Checks.refused(x, "the least behind clear", () -> x.end(shelf, true));
            }
        });
        Checks.sentence(36, "or a NOTHING does.", () -> {
            for (int shelf : Checks.TAKE_NOTHINGS) {
                for (int[] some : new int[][] {{NOTHING}, {NOTHING, 1}, {1, NOTHING}, {1, NOTHING, 2}}) {
                    Overwalks x = Checks.with(shelf, some);
                    Checks.refused(x, "the least", () -> x.end(shelf, true));
                    Checks.refused(x, "the greatest", () -> x.end(shelf, false));
                }
            }
        });
        throwsIfThereIsNoSuchShelf(36, (x, shelf) -> x.end(shelf, true));
        throwsIfThereIsNoSuchShelf(36, (x, shelf) -> x.end(shelf, false));
    }

    private static void promise37Code() {
        Checks.sentence(37, "Returns CODE of its list: a number n of 32 digits of two that starts with 1;"
                + " for each in SEQUENCE n becomes n * 31 and the THING (NOTHING 0) together", () -> {
            for (int shelf : Checks.SHELVES) {
                for (int many : Checks.FILLINGS) {
                    Overwalks x = Checks.with(shelf, Checks.upTo(many));
                    List<Integer> list = new ArrayList<>();
                    for (int thing : Checks.upTo(many)) {
                        list.add(thing);
                    }
                    Checks.onlyAsks(x, many + " on " + shelf, () -> x.code(shelf), list.hashCode());
                }
                Checks.due("none", new Overwalks().code(shelf), 1);
                Checks.due("0 alone", Checks.with(shelf, 0).code(shelf), 31);
                Checks.due("99 alone", Checks.with(shelf, 99).code(shelf), 130);
            }
            for (int shelf : Checks.TAKE_NOTHINGS) {
                Overwalks x = Checks.with(shelf, NOTHING, 7);
                Checks.due("a list with null", x.code(shelf), Arrays.asList(null, 7).hashCode());
            }
        });
        Checks.sentence(37, "it wraps around.", () -> {
            for (int row : Checks.ROWS) {
                for (int thing = 0; thing <= 99; thing++) {
                    Overwalks x = new Overwalks();
                    x.copies(row, thing, 12);
                    long n = 1;
                    for (int i = 0; i < 12; i++) {
                        n = n * 31 + thing;
                    }
                    Checks.onlyAsks(x, "12 times " + thing, () -> x.code(row), (int) n);
                    Checks.due("as a list", x.code(row), Collections.nCopies(12, thing).hashCode());
                }
            }
            // 31 to the 6th has 30 digits of two, to the 7th 35: the 7th PLACE is the first to wrap.
            Checks.due("six", Checks.with(1, 0, 0, 0, 0, 0, 0).code(1), 887503681);
            Checks.due("seven", Checks.with(1, 0, 0, 0, 0, 0, 0, 0).code(1), 1742810335);
            Checks.due("eight", Checks.with(1, 0, 0, 0, 0, 0, 0, 0, 0).code(1), -1807454463);
        });
        throwsIfThereIsNoSuchShelf(37, Overwalks::code);
    }

    private static void promise38AreAlike() {
        Checks.sentence(38, "Returns whether both have the same, one by one in SEQUENCE (lists of both are equal).", () -> {
            for (int one : Checks.SHELVES) {
                for (int other : Checks.SHELVES) {
                    for (int many : Checks.FILLINGS) {
                        tellsAlike(one, other, many);
                    }
                }
            }
            for (int one : Checks.TAKE_NOTHINGS) {
                for (int other : Checks.TAKE_NOTHINGS) {
                    if (one != other) {
                        Overwalks x = Checks.with(one, 1, NOTHING);
                        Checks.lay(x, other, 1, NOTHING);
                        Checks.onlyAsks(x, "NOTHING on both", () -> x.areAlike(one, other), true);
                        x.take(other, NOTHING);
                        Checks.lay(x, other, 0);
                        Checks.onlyAsks(x, "NOTHING and 0", () -> x.areAlike(one, other), false);
                        x.take(other, 0);
                        x.take(other, 1);
                        Checks.lay(x, other, NOTHING, 1);
                        Checks.onlyAsks(x, "another SEQUENCE", () -> x.areAlike(one, other), false);
                    }
                }
            }
        });
        throwsIfThereIsNoSuchShelfOfBoth(38, Overwalks::areAlike);
    }

    private static void tellsAlike(int one, int other, int many) {
        String call = "areAlike(" + one + ", " + other + ") of " + many;
        Overwalks x = Checks.with(one, Checks.upTo(many));
        boolean isTheSame = haveTheSame(one, other);
        if (!isTheSame) {
            Checks.onlyAsks(x, call + " and none", () -> x.areAlike(one, other), many == 0);
            Checks.lay(x, other, Checks.upTo(many));
        }
        Checks.onlyAsks(x, call, () -> x.areAlike(one, other), true);
        if (!isTheSame && many > 0) {
            x.take(other, many);
            Checks.onlyAsks(x, call + ", one has fewer", () -> x.areAlike(one, other), false);
            Checks.onlyAsks(x, call + ", the other has fewer", () -> x.areAlike(other, one), false);
            Checks.lay(x, other, 50);
            Checks.onlyAsks(x, call + ", the last is another", () -> x.areAlike(one, other), false);
        }
    }

    private static void promise39First() {
        Checks.sentence(39, "Returns the first (or last) one in SEQUENCE", () -> {
            for (int shelf : Checks.SHELVES) {
                for (int many = 1; many <= 12; many++) {
                    int last = many;
                    Overwalks x = Checks.with(shelf, Checks.upTo(many));
                    Checks.onlyAsks(x, "the first of " + many, () -> x.first(shelf, false), 1);
                    Checks.onlyAsks(x, "the last of " + many, () -> x.first(shelf, true), last);
                }
            }
            for (int shelf : new int[] {0, 1, 2, 4, 5, 8, 9, 10}) {
                Overwalks x = Checks.with(shelf, 99, 50, 0);
                Checks.onlyAsks(x, "not the least", () -> x.first(shelf, false), 99);
                Checks.onlyAsks(x, "not the greatest", () -> x.first(shelf, true), 0);
            }
            for (int shelf : Checks.TAKE_NOTHINGS) {
                Overwalks x = Checks.with(shelf, NOTHING);
                Checks.onlyAsks(x, "NOTHING first", () -> x.first(shelf, false), NOTHING);
                Checks.onlyAsks(x, "NOTHING last", () -> x.first(shelf, true), NOTHING);
            }
        });
        Checks.sentence(39, "REFUSED if none lies there.", () -> {
            for (int shelf : Checks.SHELVES) {
                Overwalks x = new Overwalks();
                Checks.refused(x, "the first", () -> x.first(shelf, false));
                Checks.refused(x, "the last", () -> x.first(shelf, true));
                Checks.lay(x, shelf, 1);
                x.take(shelf, 1);
                Checks.refused(x, "the last behind take", () -> x.first(shelf, true));
            }
        });
        throwsIfThereIsNoSuchShelf(39, (x, shelf) -> x.first(shelf, true));
        throwsIfThereIsNoSuchShelf(39, (x, shelf) -> x.first(shelf, false));
    }

    private static void promise40ValueOf() {
        Checks.sentence(40, "Returns its VALUE; NONE if it is not there.", () -> {
            for (int key = 0; key <= 99; key++) {
                int asked = key;
                Overwalks x = new Overwalks();
                Checks.onlyAsks(x, "none there", () -> x.valueOf(asked), NONE);
                x.pair(key, 0);
                Checks.onlyAsks(x, "its VALUE", () -> x.valueOf(asked), 0);
                x.pair(key, 99);
                Checks.onlyAsks(x, "its other VALUE", () -> x.valueOf(asked), 99);
                x.take(7, 99);
                Checks.onlyAsks(x, "it went", () -> x.valueOf(asked), NONE);
            }
            Overwalks x = new Overwalks();
            for (int key = 12; key >= 1; key--) {
                x.pair(key, 50 + key);
            }
            for (int key = 1; key <= 12; key++) {
                Checks.due("one of twelve", x.valueOf(key), 50 + key);
            }
            Checks.due("a VALUE is no KEY", x.valueOf(51), NONE);
        });
        Checks.sentence(40, "Throws IllegalArgumentException if key is not 0 to 99", () -> {
            Overwalks x = Checks.with(6, 0, 99);
            for (int key : Checks.NO_THINGS) {
                Checks.badArgument(x, "valueOf(" + key + ")", () -> x.valueOf(key));
            }
            Checks.due("valueOf(0)", x.valueOf(0), 0);
            Checks.due("valueOf(99)", x.valueOf(99), 99);
        });
    }

    private static void promise41OfWalk() {
        Checks.sentence(41, "what: 0 its SHELF, 1 its HOW, 2 GIVEN, 3 1 if it is STALE, otherwise 0", () -> {
            for (int walk : Checks.WALKS) {
                for (int shelf : Checks.SHELVES) {
                    for (int how : Checks.howsOver(shelf)) {
                        tellsOfTheWalk(walk, shelf, how);
                    }
                }
            }
        });
        Checks.sentence(41, "Returns that; NONE if none was made.", () -> {
            Overwalks x = Checks.with(0, 1, 2);
            for (int walk : Checks.WALKS) {
                for (int what = 0; what <= 3; what++) {
                    int asked = what;
                    x.drop(walk);
                    Checks.onlyAsks(x, "none was made", () -> x.ofWalk(walk, asked), NONE);
                    x.walk(walk, 0, 1);
                    Checks.onlyAsks(x, "one was", () -> x.ofWalk(walk, asked), asked == 1 ? 1 : 0);
                    Checks.makeStale(x, walk, 0, 1);
                    x.drop(walk);
                    Checks.onlyAsks(x, "it is gone", () -> x.ofWalk(walk, asked), NONE);
                }
            }
        });
        Checks.sentence(41, "Throws IndexOutOfBoundsException if there is no such WALK", () -> {
            Overwalks x = new Overwalks();
            for (int walk : Checks.NO_WALKS) {
                for (int what = 0; what <= 3; what++) {
                    int asked = what;
                    Checks.noPlace(x, "WALK " + walk, () -> x.ofWalk(walk, asked));
                }
            }
        });
        Checks.sentence(41, "Throws IllegalArgumentException if what is not 0 to 3", () -> {
            Overwalks x = new Overwalks();
            for (int what : new int[] {-1, 4, Integer.MIN_VALUE, Integer.MAX_VALUE}) {
                Checks.badArgument(x, "of none that was made", () -> x.ofWalk(0, what));
                x.walk(1, 0, 0);
                Checks.badArgument(x, "of one that was made", () -> x.ofWalk(1, what));
            }
        });
    }

    private static void tellsOfTheWalk(int walk, int shelf, int how) {
        Overwalks x = Checks.with(shelf, Checks.upTo(12));
        x.walk(walk, shelf, how);
        for (int given = 0; given <= 12; given++) {
            int gave = given;
            Checks.onlyAsks(x, "its SHELF", () -> x.ofWalk(walk, 0), shelf);
            Checks.onlyAsks(x, "its HOW", () -> x.ofWalk(walk, 1), how);
            Checks.onlyAsks(x, "GIVEN", () -> x.ofWalk(walk, 2), gave);
            Checks.onlyAsks(x, "not STALE", () -> x.ofWalk(walk, 3), 0);
            x.skip(walk, 1);
        }
        Checks.shift(x, shelf);
        Checks.onlyAsks(x, "STALE", () -> x.ofWalk(walk, 3), 1);
        Checks.onlyAsks(x, "the SHELF of STALE", () -> x.ofWalk(walk, 0), shelf);
        Checks.onlyAsks(x, "the HOW of STALE", () -> x.ofWalk(walk, 1), how);
        Checks.onlyAsks(x, "GIVEN of STALE", () -> x.ofWalk(walk, 2), 12);
    }

    private static void promise42House() {
        Checks.sentence(42, "what: 0 how many lie on all SHELVES (also on KEYS and VALUES each)", () -> {
            Overwalks x = new Overwalks();
            int all = 0;
            for (int shelf : Checks.SHELVES) {
                for (int thing = 1; thing <= 12; thing++) {
                    int ahead = x.size(shelf);
                    Checks.lay(x, shelf, thing);
                    all += (x.size(shelf) - ahead) * (shelf == 6 ? 2 : 1);
                    Checks.due("house(0)", x.house(0), all);
                }
            }
            Checks.onlyAsks(x, "all are full", () -> x.house(0), 132);
            x.take(7, 1);
            Checks.onlyAsks(x, "a pair went", () -> x.house(0), 130);
            x.clear(6);
            Checks.onlyAsks(x, "the TABLE is empty", () -> x.house(0), 108);
        });
        Checks.sentence(42, "1 NOTHINGS there", () -> {
            Overwalks x = new Overwalks();
            int all = 0;
            for (int row : Checks.ROWS) {
                x.put(row, 0);
                x.copies(row, NOTHING, 11);
                all += 11;
                Checks.due("house(1)", x.house(1), all);
            }
            x.put(4, NOTHING);
            x.put(4, NOTHING);
            Checks.onlyAsks(x, "one of KEPT", () -> x.house(1), 67);
            Checks.lay(x, 3, Checks.upTo(12));
            Checks.lay(x, 6, Checks.upTo(12));
            Checks.onlyAsks(x, "THINGS count not", () -> x.house(1), 67);
            x.fill(0, 1);
            Checks.onlyAsks(x, "without those of the VECTOR", () -> x.house(1), 56);
        });
        Checks.sentence(42, "Returns that.", () -> {
            Overwalks x = new Overwalks();
            for (int what = 0; what <= 5; what++) {
                int asked = what;
                Checks.onlyAsks(x, "house(" + what + ") of a new object", () -> x.house(asked), 0);
            }
        });
        Checks.sentence(42, "Throws IllegalArgumentException if what is not 0 to 5", () -> {
            Overwalks x = new Overwalks();
            for (int what : new int[] {-1, 6, Integer.MIN_VALUE, Integer.MAX_VALUE}) {
                Checks.badArgument(x, "house(" + what + ")", () -> x.house(what));
            }
        });
    }

    private static void promise42HouseCounts() {
        Checks.sentence(42, "2 WALKS that there are", () -> {
            Overwalks x = Checks.with(0, 1);
            for (int walk : Checks.WALKS) {
                x.walk(walk, 0, walk % 3);
                x.walk(walk, 0, walk % 3);
                Checks.onlyAsks(x, "made twice", () -> x.house(2), walk + 1);
            }
            x.put(0, 2);
            Checks.onlyAsks(x, "STALE ones count", () -> x.house(2), 6);
            for (int walk : Checks.WALKS) {
                x.drop(walk);
                x.drop(walk);
                Checks.onlyAsks(x, "dropped twice", () -> x.house(2), 5 - walk);
            }
        });
        Checks.sentence(42, "3 how many of these are STALE", () -> {
            Overwalks x = new Overwalks();
            for (int walk : Checks.WALKS) {
                x.walk(walk, walk, 1);
            }
            for (int walk : Checks.WALKS) {
                Checks.onlyAsks(x, "STALE so far", () -> x.house(3), walk);
                Checks.lay(x, walk, 1);
            }
            Checks.onlyAsks(x, "all", () -> x.house(3), 6);
            x.drop(0);
            Checks.onlyAsks(x, "without the one that is gone", () -> x.house(3), 5);
            x.walk(1, 1, 0);
            Checks.onlyAsks(x, "without the one that is made anew", () -> x.house(3), 4);
        });
        Checks.sentence(42, "4 how often REFUSED was told", () -> {
            Overwalks x = new Overwalks();
            x.walk(0, 0, 1);
            x.walk(1, 0, 0);
            for (int times = 0; times < 300; times += 3) {
                Checks.due("house(4)", x.house(4), times);
                x.first(0, true);
                x.rest(0);
                x.next(1);
            }
            x.put(0, 1);
            x.zip(0, 1);
            x.often(3, NOTHING);
            x.drop(5);
            Checks.onlyAsks(x, "behind all", () -> x.house(4), 301);
        });
        Checks.sentence(42, "5 how often one knocked", () -> {
            Overwalks x = new Overwalks();
            for (int times = 0; times < 200; times++) {
                Checks.due("house(5)", x.house(5), times);
                x.knock();
            }
            Checks.onlyAsks(x, "behind all", () -> x.house(5), 200);
        });
    }

    private static void promise43Knock() {
        Checks.sentence(43, "Knocks. Returns how often one knocked, with this.", () -> {
            Overwalks x = new Overwalks();
            Overwalks other = new Overwalks();
            for (int times = 1; times <= 512; times++) {
                Checks.due("knock", x.knock(), times);
            }
            Checks.due("upon another object", other.knock(), 1);
            Checks.due("house(5)", other.house(5), 1);
            Checks.due("nothing else is counted", other.house(4), 0);
        });
    }

    private static void promise44IsSound() {
        Checks.sentence(44, "Returns whether all of this is so", () -> {
            for (int shelf : Checks.SHELVES) {
                for (int many : Checks.FILLINGS) {
                    Overwalks x = Checks.with(shelf, Checks.upTo(many));
                    Checks.due(many + " on " + shelf, x.isSound(), true);
                }
            }
            for (int row : Checks.ROWS) {
                Overwalks x = new Overwalks();
                x.copies(row, NOTHING, 12);
                Checks.due("12 NOTHINGS on " + row, x.isSound(), true);
            }
            Overwalks kept = Checks.with(4, 99, NOTHING, 0);
            Checks.due("KEPT that does not rise", kept.isSound(), true);
            Overwalks table = new Overwalks();
            table.pair(1, 9);
            table.pair(2, 3);
            table.pair(3, 3);
            Checks.due("VALUES that do not rise", table.isSound(), true);
        });
        Checks.sentence(44, "(nothing of it is counted, no WALK goes on)", () -> {
            for (int shelf : Checks.SHELVES) {
                for (int many : new int[] {0, 1, 2, 12}) {
                    Overwalks x = Checks.with(shelf, Checks.upTo(many));
                    x.walk(0, shelf, 1);
                    x.walk(1, shelf, 0);
                    x.skip(0, 1);
                    String ahead = Checks.state(x) + " refused " + x.house(4);
                    x.isSound();
                    Checks.due("the state", Checks.state(x) + " refused " + x.house(4), ahead);
                    Checks.due("the ENUMERATION", x.rest(1), textUpTo(many));
                    int want = many == 0 || shelf == 7 ? Checks.REFUSED : many - 1;
                    Checks.due("what was given last goes still", x.takeOut(0), want);
                }
            }
        });
    }

    private static void promise45Digest() {
        Checks.sentence(45, "A number d starts with 7780; then d becomes d * 31 + v .. for each v in this order", () -> {
            for (int shelf : Checks.SHELVES) {
                for (int many : Checks.FILLINGS) {
                    for (int how : Checks.howsOver(shelf)) {
                        Overwalks x = Checks.with(shelf, Checks.upTo(many));
                        x.walk(shelf % 6, shelf, how);
                        x.next(shelf % 6);
                        x.knock();
                        x.take(5, NOTHING);
                        Checks.due("digest()", x.digest(), Checks.reckoned(x, true));
                        Checks.due("digest() again", x.digest(), Checks.reckoned(x, true));
                        Checks.shift(x, shelf);
                        Checks.due("digest() then", x.digest(), Checks.reckoned(x, true));
                    }
                }
            }
        });
        Checks.sentence(45, "which wraps around as a 64-bit integer", () -> {
            long d = 7780;
            boolean hasWrapped = false;
            for (int step = 0; step < 6 + 11 + 24; step++) {
                int v = step < 17 ? 0 : NONE;
                hasWrapped |= d > Long.MAX_VALUE / 31 || d < Long.MIN_VALUE / 31;
                d = d * 31 + v;
            }
            Checks.due("it wraps", hasWrapped, true);
            Checks.due("digest() of a new object", new Overwalks().digest(), d * 31 + 1);
        });
        Checks.sentence(45, "then all that lies there in SEQUENCE (NOTHING 100)", () -> {
            for (int row : Checks.ROWS) {
                Overwalks x = Checks.with(row, 1, NOTHING);
                Overwalks y = Checks.with(row, NOTHING, 1);
                Checks.due("1 ahead of NOTHING", x.digest() == y.digest(), false);
                Checks.due("turned", x.turn(row), 2);
                Checks.due("the same then", x.digest(), y.digest());
                Checks.due("NOTHING as 100", x.digest(), Checks.reckoned(x, true));
            }
        });
        Checks.sentence(45, "1 if isSound(), otherwise 0.", () -> {
            Overwalks x = Checks.with(3, 1, 2);
            Checks.due("sound", x.isSound(), true);
            Checks.due("ends with 1", x.digest(), Checks.reckoned(x, true));
            Checks.due("not with 0", x.digest() == Checks.reckoned(x, false), false);
        });
    }
}
