import java.util.ArrayList;
import java.util.Collections;
import java.util.List;
import java.util.function.BiConsumer;

/** Promises 1 to 16, sentence by sentence. */
public final class ShelfSentencesTest {
    private static final int NONE = Checks.NONE;
    private static final int NOTHING = Checks.NOTHING;

    /** SHELVES upon which the same may be PUT several times. */
    private static final int[] SEVERAL_TIMES = {0, 1, 2, 5, 8, 9, 10};
    private static final int[] EACH_ONCE = {3, 4};
    private static final int[] TAKE_NO_NOTHINGS_BUT_PUT_UPON = {3, 5};

    public static void main(String[] args) {
        promise1NewObject();
        promise2Put();
        promise3PutAll();
        promise3PutAllThrows();
        promise4Take();
        promise5Clear();
        promise6Pair();
        promise7Pour();
        promise7PourThrows();
        promise8Change();
        promise9Insert();
        promise10Remove();
        promise11Turn();
        promise12Rotate();
        promise13Swap();
        promise14Fill();
        promise15Replace();
        promise16Copies();
        Checks.end();
    }

    /** What lies on a SHELF, as a list of java.util. */
    private static List<Integer> thingsOn(Overwalks x, int shelf) {
        List<Integer> things = new ArrayList<>();
        for (String thing : x.isEmpty(shelf) ? new String[0] : x.text(shelf).split(" ")) {
            things.add(thing.equals("-") ? NOTHING : Integer.parseInt(thing));
        }
        return things;
    }

    private static String textOf(List<Integer> things) {
        StringBuilder text = new StringBuilder();
        for (int thing : things) {
            text.append(text.length() == 0 ? "" : " ").append(thing == NOTHING ? "-" : "" + thing);
        }
        return text.toString();
    }

    private static void promise1NewObject() {
        Checks.sentence(1, "Creates empty shelves.", () -> {
            Overwalks x = new Overwalks();
            for (int shelf : Checks.SHELVES) {
                Checks.due("isEmpty(" + shelf + ")", x.isEmpty(shelf), true);
                Checks.due("clear(" + shelf + ")", x.clear(shelf), 0);
            }
            for (int what = 0; what <= 5; what++) {
                Checks.due("house(" + what + ")", x.house(what), 0);
            }
            Checks.lay(x, 0, Checks.upTo(12));
            Checks.due("another one is empty too", new Overwalks().size(0), 0);
        });
    }

    private static void promise2Put() {
        Checks.sentence(2, "One is PUT.", () -> {
            for (int shelf : Checks.PUT_UPON) {
                for (int many = 0; many <= 11; many++) {
                    Overwalks x = Checks.with(shelf, Checks.upTo(many));
                    List<Integer> want = listUpTo(many);
                    x.put(shelf, 0);
                    want.add(shelf == 3 ? 0 : many, 0);
                    Checks.due("0 behind " + many + " on " + shelf, x.text(shelf), textOf(want));
                }
                Overwalks x = Checks.with(shelf, 5);
                x.put(shelf, 5);
                Checks.due("again on " + shelf, x.text(shelf), shelf == 3 || shelf == 4 ? "5" : "5 5");
            }
        });
        Checks.sentence(2, "Returns 1 if something is otherwise then, 0 if not", () -> {
            for (int shelf : SEVERAL_TIMES) {
                Overwalks x = new Overwalks();
                for (int many = 1; many <= 12; many++) {
                    Checks.due("the same again on " + shelf, x.put(shelf, 5), 1);
                    Checks.due("size", x.size(shelf), many);
                }
            }
            for (int shelf : EACH_ONCE) {
                Overwalks x = new Overwalks();
                for (int many = 1; many <= 11; many++) {
                    Checks.due("a new one on " + shelf, x.put(shelf, 50 - many), 1);
                    Checks.due("the same again", x.put(shelf, 50 - many), 0);
                    Checks.due("the first again", x.put(shelf, 49), 0);
                    Checks.due("size", x.size(shelf), many);
                }
            }
        });
        Checks.sentence(2, "REFUSED if the SHELF is KEYS or VALUES", () -> {
            for (int shelf : Checks.TABLE) {
                for (int many = 0; many <= 11; many++) {
                    Overwalks x = Checks.with(6, Checks.upTo(many));
                    Checks.refused(x, "put of 1", () -> x.put(shelf, 1));
                    Checks.refused(x, "put of 99", () -> x.put(shelf, 99));
                    Checks.refused(x, "put of NOTHING", () -> x.put(shelf, NOTHING));
                }
            }
        });
        Checks.sentence(2, "or it is NOTHING and the SHELF does not TAKE it.", () -> {
            for (int shelf : TAKE_NO_NOTHINGS_BUT_PUT_UPON) {
                for (int many = 0; many <= 11; many++) {
                    Overwalks x = Checks.with(shelf, Checks.upTo(many));
                    Checks.refused(x, "put of NOTHING on " + shelf, () -> x.put(shelf, NOTHING));
                    Checks.due("put of 99", x.put(shelf, 99), 1);
                }
            }
            for (int shelf : Checks.TAKE_NOTHINGS) {
                Checks.due("put of NOTHING on " + shelf, new Overwalks().put(shelf, NOTHING), 1);
            }
        });
        Checks.sentence(2, "Throws IndexOutOfBoundsException if there is no such SHELF", () -> {
            Overwalks x = new Overwalks();
            for (int shelf : Checks.NO_SHELVES) {
                Checks.noPlace(x, "put(" + shelf + ", 0)", () -> x.put(shelf, 0));
                Checks.noPlace(x, "put(" + shelf + ", 100)", () -> x.put(shelf, NOTHING));
            }
        });
        Checks.sentence(2, "Throws IllegalArgumentException if thing is not 0 to 100", () -> {
            for (int shelf : Checks.SHELVES) {
                Overwalks x = new Overwalks();
                for (int thing : Checks.NO_THINGS_OR_NOTHING) {
                    Checks.badArgument(x, "put(" + shelf + ", " + thing + ")", () -> x.put(shelf, thing));
                }
            }
        });
        Checks.sentence(2, "Throws IllegalStateException if 12 lie there", () -> {
            for (int shelf : Checks.PUT_UPON) {
                Overwalks x = Checks.with(shelf, Checks.upTo(11));
                Checks.due("the twelfth on " + shelf, x.put(shelf, 0), 1);
                Checks.badState(x, "a thirteenth", () -> x.put(shelf, 50));
                Checks.badState(x, "one that is there", () -> x.put(shelf, 0));
                Checks.badState(x, "NOTHING", () -> x.put(shelf, NOTHING));
                x.take(shelf, 5);
                Checks.due("a twelfth again", x.put(shelf, 50), 1);
            }
            for (int shelf : Checks.TABLE) {
                Overwalks x = Checks.with(shelf, Checks.upTo(12));
                Checks.badState(x, "on full " + shelf, () -> x.put(shelf, 50));
            }
        });
    }

    private static void promise3PutAll() {
        Checks.sentence(3, "Up to four are PUT at once (Collections.addAll), up to the first NONE of them.", () -> {
            int[] some = {7, 3, 9, 5};
            for (int shelf : Checks.PUT_UPON) {
                for (int many = 0; many <= 4; many++) {
                    for (int behind : new int[] {NONE, 1, NOTHING}) {
                        putsUpToTheFirstNone(shelf, some, many, behind);
                    }
                }
            }
        });
        Checks.sentence(3, "Returns 1 if something is otherwise then, 0 if not", () -> {
            for (int shelf : Checks.PUT_UPON) {
                Overwalks x = new Overwalks();
                Checks.due("none on " + shelf, x.putAll(shelf, NONE, 1, 2, 3), 0);
                Checks.due("one", x.putAll(shelf, 1, NONE, 2, 3), 1);
                Checks.due("one like it", x.putAll(shelf, 1, NONE, 2, 3), shelf == 3 || shelf == 4 ? 0 : 1);
                Checks.due("four", x.putAll(shelf, 1, 2, 3, 4), 1);
            }
            for (int shelf : EACH_ONCE) {
                for (int isNew = 0; isNew < 4; isNew++) {
                    Overwalks x = Checks.with(shelf, 1, 2, 3, 4);
                    int[] four = {4, 3, 2, 1};
                    Checks.due("all are there", x.putAll(shelf, four[0], four[1], four[2], four[3]), 0);
                    four[isNew] = 0;
                    Checks.due("one is new", x.putAll(shelf, four[0], four[1], four[2], four[3]), 1);
                    Checks.due("size", x.size(shelf), 5);
                }
            }
        });
        Checks.sentence(3, "REFUSED if the SHELF is KEYS or VALUES", () -> {
            for (int shelf : Checks.TABLE) {
                Overwalks x = Checks.with(shelf, Checks.upTo(8));
                Checks.refused(x, "four", () -> x.putAll(shelf, 1, 2, 3, 4));
                Checks.refused(x, "one", () -> x.putAll(shelf, 50, NONE, NONE, NONE));
                Checks.refused(x, "none counts", () -> x.putAll(shelf, NONE, 1, 2, 3));
                Checks.refused(x, "NOTHING", () -> x.putAll(shelf, NOTHING, NONE, 2, 3));
            }
        });
        Checks.sentence(3, "or one that counts is NOTHING and the SHELF does not TAKE it.", () -> {
            for (int shelf : TAKE_NO_NOTHINGS_BUT_PUT_UPON) {
                Overwalks x = Checks.with(shelf, 1);
                Checks.refused(x, "the first", () -> x.putAll(shelf, NOTHING, 1, 2, 3));
                Checks.refused(x, "the second", () -> x.putAll(shelf, 5, NOTHING, NONE, 3));
                Checks.refused(x, "the third", () -> x.putAll(shelf, 5, 6, NOTHING, NONE));
                Checks.refused(x, "the fourth", () -> x.putAll(shelf, 5, 6, 7, NOTHING));
                Checks.due("none that counts", x.putAll(shelf, NONE, NOTHING, NOTHING, NOTHING), 0);
                Checks.due("NOTHING behind NONE", x.putAll(shelf, 5, NONE, NOTHING, NOTHING), 1);
                Checks.due("NOTHING last behind NONE", x.putAll(shelf, 6, 7, NONE, NOTHING), 1);
                Checks.due("text", x.text(shelf), "1 5 6 7");
            }
            for (int shelf : Checks.TAKE_NOTHINGS) {
                Overwalks x = new Overwalks();
                Checks.due("NOTHINGS on " + shelf, x.putAll(shelf, 4, NOTHING, 3, NONE), 1);
                Checks.due("text", x.text(shelf), "4 - 3");
            }
        });
    }

    private static void putsUpToTheFirstNone(int shelf, int[] some, int many, int behind) {
        int[] four = {behind, behind, behind, behind};
        List<Integer> want = new ArrayList<>();
        for (int i = 0; i < many; i++) {
            four[i] = some[i];
            want.add(some[i]);
        }
        if (many < 4) {
            four[many] = NONE;
        }
        if (shelf == 3) {
            Collections.sort(want);
        }
        Overwalks x = new Overwalks();
        Checks.due(many + " on " + shelf, x.putAll(shelf, four[0], four[1], four[2], four[3]), many == 0 ? 0 : 1);
        Checks.due("these came", x.text(shelf), textOf(want));
    }

    private static void promise3PutAllThrows() {
        Checks.sentence(3, "Throws IndexOutOfBoundsException if there is no such SHELF", () -> {
            Overwalks x = new Overwalks();
            for (int shelf : Checks.NO_SHELVES) {
                Checks.noPlace(x, "four on " + shelf, () -> x.putAll(shelf, 1, 2, 3, 4));
                Checks.noPlace(x, "none on " + shelf, () -> x.putAll(shelf, NONE, NONE, NONE, NONE));
            }
        });
        Checks.sentence(3, "Throws IllegalArgumentException if one of the four is not -1 to 100", () -> {
            for (int shelf : Checks.SHELVES) {
                Overwalks x = new Overwalks();
                for (int bad : new int[] {-2, 101, Integer.MIN_VALUE, Integer.MAX_VALUE}) {
                    Checks.badArgument(x, "a", () -> x.putAll(shelf, bad, 1, 2, 3));
                    Checks.badArgument(x, "b", () -> x.putAll(shelf, 1, bad, 2, 3));
                    Checks.badArgument(x, "b behind NONE", () -> x.putAll(shelf, NONE, bad, 2, 3));
                    Checks.badArgument(x, "c", () -> x.putAll(shelf, 1, 2, bad, 3));
                    Checks.badArgument(x, "c behind NONE", () -> x.putAll(shelf, NONE, 2, bad, 3));
                    Checks.badArgument(x, "d", () -> x.putAll(shelf, 1, 2, 3, bad));
                    Checks.badArgument(x, "d behind NONE", () -> x.putAll(shelf, NONE, 2, 3, bad));
                }
            }
            Overwalks x = new Overwalks();
            Checks.due("0 to 100 may come", x.putAll(0, 0, 99, NOTHING, NONE), 1);
        });
        Checks.sentence(3, "Throws IllegalStateException if as many as lie there and those that count"
                + " are more than 12 together (also if some are there already)", () -> {
            for (int shelf : Checks.SHELVES) {
                for (int lie : Checks.FILLINGS) {
                    for (int count = 0; count <= 4; count++) {
                        putsAtMostTwelve(shelf, lie, count, 50);
                        putsAtMostTwelve(shelf, lie, count, 1);
                    }
                }
            }
            Overwalks x = Checks.with(3, Checks.upTo(12));
            Checks.badState(x, "NOTHING that is not taken", () -> x.putAll(3, NOTHING, NONE, 1, 1));
        });
    }

    /** So many that count upon so many; also if they are there already, or are all the same. */
    private static void putsAtMostTwelve(int shelf, int lie, int count, int thing) {
        Overwalks x = Checks.with(shelf, Checks.upTo(lie));
        int[] four = {NONE, NONE, NONE, NONE};
        for (int i = 0; i < count; i++) {
            four[i] = thing;
        }
        Checks.Call putAll = () -> x.putAll(shelf, four[0], four[1], four[2], four[3]);
        String call = count + " on " + lie + ", SHELF " + shelf;
        if (lie + count > 12) {
            Checks.badState(x, call, putAll);
        } else if (shelf == 6 || shelf == 7) {
            Checks.refused(x, call, putAll);
        } else {
            boolean comes = count > 0 && (shelf != 3 && shelf != 4 || thing > lie);
            Checks.due(call, putAll.answer(), comes ? 1 : 0);
            int coming = comes ? shelf == 3 || shelf == 4 ? 1 : count : 0;
            Checks.due("size then, " + call, x.size(shelf), lie + coming);
        }
    }

    private static void promise4Take() {
        Checks.sentence(4, "It goes (the first one, if it lies there several times;", () -> {
            for (int shelf : SEVERAL_TIMES) {
                Overwalks x = Checks.with(shelf, 1, 2, 1, 3, 1);
                x.take(shelf, 1);
                Checks.due("the first went", x.text(shelf), "2 1 3 1");
                x.take(shelf, 1);
                Checks.due("the second went", x.text(shelf), "2 3 1");
                x.take(shelf, 1);
                Checks.due("the last went", x.text(shelf), "2 3");
            }
            for (int row : Checks.ROWS) {
                Overwalks x = Checks.with(row, 1, NOTHING, 2, NOTHING);
                x.take(row, NOTHING);
                Checks.due("the first NOTHING went", x.text(row), "1 2 -");
            }
            for (int shelf : Checks.SHELVES) {
                for (int gone = 1; gone <= 12; gone++) {
                    List<Integer> left = listUpTo(12);
                    left.remove(gone - 1);
                    Overwalks x = Checks.with(shelf, Checks.upTo(12));
                    x.take(shelf, gone);
                    Checks.due("one of twelve went", x.text(shelf), textOf(left));
                }
            }
        });
        Checks.sentence(4, "of VALUES the pair with the smallest KEY).", () -> {
            Overwalks x = new Overwalks();
            x.pair(9, 5);
            x.pair(3, 5);
            x.pair(1, 4);
            x.pair(7, 5);
            Checks.due("take", x.take(7, 5), 1);
            Checks.due("KEYS", x.text(6), "1 7 9");
            Checks.due("VALUES", x.text(7), "4 5 5");
            x.take(7, 5);
            Checks.due("KEYS then", x.text(6), "1 9");
            x.take(6, 1);
            Checks.due("of KEYS its VALUE goes", x.text(7), "5");
        });
        Checks.sentence(4, "Returns 1 if it was there, 0 if not", () -> {
            for (int shelf : Checks.SHELVES) {
                for (int many : Checks.FILLINGS) {
                    Overwalks x = Checks.with(shelf, Checks.upTo(many));
                    Checks.onlyAsks(x, "one that is not there", () -> x.take(shelf, many + 1), 0);
                    Checks.onlyAsks(x, "0 is not there", () -> x.take(shelf, 0), 0);
                    for (int thing = many; thing >= 1; thing--) {
                        Checks.due("one that is there", x.take(shelf, thing), 1);
                        Checks.due("size", x.size(shelf), thing - 1);
                        Checks.due("it is not there then", x.take(shelf, thing), 0);
                    }
                }
            }
        });
        Checks.sentence(4, "REFUSED if it is NOTHING, and the SHELF does not TAKE it.", () -> {
            for (int shelf : Checks.TAKE_NO_NOTHINGS) {
                for (int many : new int[] {0, 1, 12}) {
                    Overwalks x = Checks.with(shelf, Checks.upTo(many));
                    Checks.refused(x, "take of " + shelf, () -> x.take(shelf, NOTHING));
                }
            }
            for (int shelf : Checks.TAKE_NOTHINGS) {
                Overwalks x = Checks.with(shelf, NOTHING);
                Checks.due("take of " + shelf, x.take(shelf, NOTHING), 1);
                Checks.due("take again", x.take(shelf, NOTHING), 0);
            }
        });
        Checks.sentence(4, "Throws IndexOutOfBoundsException if there is no such SHELF", () -> {
            Overwalks x = new Overwalks();
            for (int shelf : Checks.NO_SHELVES) {
                Checks.noPlace(x, "take(" + shelf + ", 1)", () -> x.take(shelf, 1));
            }
        });
        Checks.sentence(4, "Throws IllegalArgumentException if thing is not 0 to 100", () -> {
            for (int shelf : Checks.SHELVES) {
                Overwalks x = Checks.with(shelf, 0, 99);
                for (int thing : Checks.NO_THINGS_OR_NOTHING) {
                    Checks.badArgument(x, "take(" + shelf + ", " + thing + ")", () -> x.take(shelf, thing));
                }
                Checks.due("take of 99", x.take(shelf, 99), 1);
                Checks.due("take of 0", x.take(shelf, 0), 1);
            }
        });
    }

    private static List<Integer> listUpTo(int many) {
        List<Integer> things = new ArrayList<>();
        for (int thing : Checks.upTo(many)) {
            things.add(thing);
        }
        return things;
    }

    private static void promise5Clear() {
        Checks.sentence(5, "All goes (of KEYS and VALUES the whole TABLE).", () -> {
            for (int shelf : Checks.SHELVES) {
                Overwalks x = new Overwalks();
                for (int each : Checks.PUT_UPON) {
                    Checks.lay(x, each, 1, 2, 3);
                }
                Checks.lay(x, 6, 1, 2, 3);
                x.clear(shelf);
                boolean isOfTable = shelf == 6 || shelf == 7;
                for (int each : Checks.SHELVES) {
                    boolean went = each == shelf || isOfTable && (each == 6 || each == 7);
                    Checks.due("clear(" + shelf + "): text(" + each + ")", x.text(each), went ? "" : "1 2 3");
                }
            }
        });
        Checks.sentence(5, "Returns how many lay there.", () -> {
            for (int shelf : Checks.SHELVES) {
                for (int many : Checks.FILLINGS) {
                    Overwalks x = Checks.with(shelf, Checks.upTo(many));
                    Checks.due("clear(" + shelf + ")", x.clear(shelf), many);
                    Checks.due("clear again", x.clear(shelf), 0);
                }
            }
        });
        Checks.sentence(5, "Throws IndexOutOfBoundsException if there is no such SHELF", () -> {
            Overwalks x = Checks.with(0, 1);
            for (int shelf : Checks.NO_SHELVES) {
                Checks.noPlace(x, "clear(" + shelf + ")", () -> x.clear(shelf));
            }
        });
    }

    private static void promise6Pair() {
        Checks.sentence(6, "A pair comes into the TABLE; a KEY that is there gets another VALUE.", () -> {
            Overwalks x = new Overwalks();
            for (int key = 11; key >= 0; key--) {
                x.pair(key, 50 + key);
            }
            Checks.due("KEYS", x.text(6), "0 1 2 3 4 5 6 7 8 9 10 11");
            Checks.due("VALUES", x.text(7), "50 51 52 53 54 55 56 57 58 59 60 61");
            for (int key = 0; key <= 11; key++) {
                x.pair(key, 99 - key);
                Checks.due("another VALUE", x.valueOf(key), 99 - key);
            }
            Checks.due("KEYS stay", x.text(6), "0 1 2 3 4 5 6 7 8 9 10 11");
            Checks.due("all VALUES", x.text(7), "99 98 97 96 95 94 93 92 91 90 89 88");
        });
        Checks.sentence(6, "Returns the VALUE that it had; NONE if the KEY was not there.", () -> {
            for (int key = 0; key <= 99; key++) {
                Overwalks x = new Overwalks();
                Checks.due("a new KEY", x.pair(key, 0), NONE);
                Checks.due("the VALUE that it had", x.pair(key, 99), 0);
                Checks.due("the VALUE that it had then", x.pair(key, 99), 99);
                Checks.due("the same VALUE again", x.pair(key, 7), 99);
                x.take(6, key);
                Checks.due("the KEY went", x.pair(key, 1), NONE);
            }
        });
        Checks.sentence(6, "Throws IllegalArgumentException if one of both is not 0 to 99", () -> {
            Overwalks x = Checks.with(6, Checks.upTo(3));
            for (int bad : Checks.NO_THINGS) {
                Checks.badArgument(x, "KEY " + bad, () -> x.pair(bad, 1));
                Checks.badArgument(x, "VALUE " + bad, () -> x.pair(1, bad));
                Checks.badArgument(x, "both " + bad, () -> x.pair(bad, bad));
            }
            Checks.due("0 and 99", x.pair(0, 99), NONE);
            Checks.due("99 and 0", x.pair(99, 0), NONE);
        });
        Checks.sentence(6, "Throws IllegalStateException if the KEY is not there, and 12 are", () -> {
            Overwalks x = Checks.with(6, Checks.upTo(11));
            Checks.due("the twelfth KEY", x.pair(50, 1), NONE);
            Checks.badState(x, "a thirteenth KEY", () -> x.pair(0, 1));
            Checks.badState(x, "a thirteenth KEY behind all", () -> x.pair(99, 1));
            for (int key = 1; key <= 11; key++) {
                Checks.due("a KEY of twelve", x.pair(key, 60), key);
            }
            Checks.due("the last KEY of twelve", x.pair(50, 60), 1);
            x.take(6, 50);
            Checks.due("a twelfth KEY again", x.pair(0, 1), NONE);
        });
    }

    private static void promise7Pour() {
        Checks.sentence(7, "All of one SHELF is PUT on another one (or on itself), in its SEQUENCE as it was ahead.", () -> {
            for (int from : Checks.SHELVES) {
                for (int into : Checks.PUT_UPON) {
                    poursInSequence(from, into);
                }
            }
            for (int row : SEVERAL_TIMES) {
                for (int many = 0; many <= 6; many++) {
                    Overwalks x = Checks.with(row, Checks.upTo(many));
                    List<Integer> twice = thingsOn(x, row);
                    twice.addAll(thingsOn(x, row));
                    x.pour(row, row);
                    Checks.due("on itself", x.text(row), textOf(twice));
                }
            }
            for (int shelf : EACH_ONCE) {
                Overwalks x = Checks.with(shelf, 1, 2, 3);
                x.pour(shelf, shelf);
                Checks.due("on itself", x.text(shelf), "1 2 3");
            }
        });
        Checks.sentence(7, "Returns 1 if something is otherwise then, 0 if not", () -> {
            for (int from : Checks.SHELVES) {
                for (int into : Checks.PUT_UPON) {
                    if (from != into) {
                        tellsWhetherPouringChanges(from, into);
                    }
                }
            }
            for (int shelf : SEVERAL_TIMES) {
                Checks.due("on itself", Checks.with(shelf, 1).pour(shelf, shelf), 1);
                Checks.due("the empty one on itself", new Overwalks().pour(shelf, shelf), 0);
            }
            for (int shelf : EACH_ONCE) {
                Checks.due("on itself", Checks.with(shelf, 1, 2).pour(shelf, shelf), 0);
            }
        });
        Checks.sentence(7, "REFUSED if into is KEYS or VALUES", () -> {
            for (int from : Checks.SHELVES) {
                for (int into : Checks.TABLE) {
                    Overwalks x = Checks.with(from, 1, 2);
                    Checks.refused(x, "pour(" + from + ", " + into + ")", () -> x.pour(from, into));
                    Overwalks empty = new Overwalks();
                    Checks.refused(empty, "pour of an empty one", () -> empty.pour(from, into));
                }
            }
        });
        Checks.sentence(7, "or NOTHING lies on the first one, and into does not TAKE it.", () -> {
            for (int from : Checks.TAKE_NOTHINGS) {
                for (int into : TAKE_NO_NOTHINGS_BUT_PUT_UPON) {
                    for (int[] some : new int[][] {{NOTHING}, {NOTHING, 1, 2}, {1, NOTHING, 2}, {1, 2, NOTHING}}) {
                        Overwalks x = Checks.with(from, some);
                        Checks.refused(x, "pour(" + from + ", " + into + ")", () -> x.pour(from, into));
                        x.take(from, NOTHING);
                        Checks.due("without it", x.pour(from, into), some.length > 1 ? 1 : 0);
                    }
                }
                for (int into : Checks.TAKE_NOTHINGS) {
                    Overwalks x = Checks.with(from, 1, NOTHING, 2);
                    x.pour(from, into);
                    Checks.due("NOTHING comes", x.has(into, NOTHING), 1);
                }
            }
        });
    }

    private static void poursInSequence(int from, int into) {
        if (from == into) {
            return;
        }
        Overwalks x = new Overwalks();
        Checks.lay(x, from, 7, 3, 9);
        Checks.lay(x, into, 5);
        List<Integer> want = thingsOn(x, from);
        want.add(0, 5);
        if (into == 3) {
            Collections.sort(want);
        }
        String ahead = x.text(from);
        x.pour(from, into);
        Checks.due("pour(" + from + ", " + into + ")", x.text(into), textOf(want));
        Checks.due("it stays on the first one", x.text(from), ahead);
    }

    private static void tellsWhetherPouringChanges(int from, int into) {
        String call = "pour(" + from + ", " + into + ")";
        boolean isOnce = into == 3 || into == 4;
        Overwalks x = new Overwalks();
        Checks.due(call + " of none", x.pour(from, into), 0);
        Checks.lay(x, from, 1, 2, 3);
        Checks.lay(x, into, 1);
        Checks.due(call + ", two come", x.pour(from, into), 1);
        Checks.due(call + " again", x.pour(from, into), isOnce ? 0 : 1);
        Checks.lay(x, from, 4);
        Checks.due(call + ", the last comes", x.pour(from, into), 1);
        Checks.due("size", x.size(into), isOnce ? 4 : 11);
    }

    private static void promise7PourThrows() {
        Checks.sentence(7, "Throws IndexOutOfBoundsException if there is no such SHELF (both)", () -> {
            Overwalks x = Checks.with(0, 1);
            for (int bad : Checks.NO_SHELVES) {
                Checks.noPlace(x, "from " + bad, () -> x.pour(bad, 0));
                Checks.noPlace(x, "into " + bad, () -> x.pour(0, bad));
                Checks.noPlace(x, "both " + bad, () -> x.pour(bad, bad));
            }
        });
        Checks.sentence(7, "Throws IllegalStateException if both have more than 12 together"
                + " (the same one counts twice)", () -> {
            for (int from : Checks.SHELVES) {
                for (int into : Checks.SHELVES) {
                    for (int many : Checks.FILLINGS) {
                        poursAtMostTwelve(from, into, many, 12 - many);
                        if (many > 0) {
                            poursAtMostTwelve(from, into, many, 13 - many);
                        }
                    }
                }
            }
        });
    }

    private static void poursAtMostTwelve(int from, int into, int many, int lie) {
        boolean isOfTable = into == 6 || into == 7;
        boolean isTheSame = from == into || isOfTable && (from == 6 || from == 7);
        Overwalks x = Checks.with(from, Checks.upTo(many));
        if (!isTheSame) {
            Checks.lay(x, into, Checks.upTo(lie));
        }
        int together = x.size(from) + x.size(into);
        String call = "pour(" + from + ", " + into + ") of " + many + " on " + x.size(into);
        if (together > 12) {
            Checks.badState(x, call, () -> x.pour(from, into));
        } else if (isOfTable) {
            Checks.refused(x, call, () -> x.pour(from, into));
        } else {
            x.pour(from, into);
            int want = into == 3 || into == 4 ? Math.max(many, isTheSame ? many : lie) : together;
            Checks.due(call, x.size(into), want);
        }
    }

    // ---- ROWS

    private static void throwsIfNoneOfTheRows(int promise, BiConsumer<Overwalks, Integer> call) {
        Checks.sentence(promise, "Throws IndexOutOfBoundsException if row is none of the ROWS", () -> {
            for (int row : Checks.NO_ROWS) {
                Overwalks x = row >= 0 && row <= 10 ? Checks.with(row, 1, 2) : new Overwalks();
                Checks.noPlace(x, "row " + row, () -> {
                    call.accept(x, row);
                    return "no exception";
                });
            }
        });
    }

    /** What is looked at on one of the ROWS with 1 .. many upon it. */
    private interface RowTest {
        void look(Overwalks x, int row, int many);
    }

    private static void onEachRow(RowTest test) {
        for (int row : Checks.ROWS) {
            for (int many : Checks.FILLINGS) {
                test.look(Checks.with(row, Checks.upTo(many)), row, many);
            }
        }
    }

    private static int[] noPlacesOf(int many) {
        return new int[] {-1, many, many + 1, Integer.MIN_VALUE, Integer.MAX_VALUE};
    }

    private static void promise8Change() {
        Checks.sentence(8, "What lies on a PLACE becomes another one.", () -> onEachRow((x, row, many) -> {
            List<Integer> want = listUpTo(many);
            Checks.due("row " + row, x.text(row), textOf(want));
            for (int place = 0; place < many; place++) {
                for (int thing : new int[] {0, 99, NOTHING}) {
                    x.change(row, place, thing);
                    want.set(place, thing);
                    Checks.due("row " + row, x.text(row), textOf(want));
                }
            }
        }));
        Checks.sentence(8, "Returns what it was.", () -> onEachRow((x, row, many) -> {
            for (int place = 0; place < many; place++) {
                Checks.due("it was", x.change(row, place, NOTHING), place + 1);
                Checks.due("it was NOTHING", x.change(row, place, 0), NOTHING);
                Checks.due("it was 0", x.change(row, place, 99), 0);
                Checks.due("it stays 99", x.change(row, place, 99), 99);
            }
            Checks.due("how many lie there", x.size(row), many);
        }));
        throwsIfNoneOfTheRows(8, (x, row) -> x.change(row, 0, 5));
        Checks.sentence(8, "or there is no such PLACE", () -> {
            for (int row : Checks.ROWS) {
                for (int many : Checks.FILLINGS) {
                    Overwalks x = Checks.with(row, Checks.upTo(many));
                    for (int place : noPlacesOf(many)) {
                        Checks.noPlace(x, "PLACE " + place + " of " + many, () -> x.change(row, place, 5));
                    }
                }
            }
        });
        Checks.sentence(8, "Throws IllegalArgumentException if thing is not 0 to 100", () -> {
            for (int row : Checks.ROWS) {
                Overwalks x = Checks.with(row, 1, 2);
                for (int thing : Checks.NO_THINGS_OR_NOTHING) {
                    Checks.badArgument(x, "to " + thing, () -> x.change(row, 1, thing));
                }
            }
        });
    }

    private static void promise9Insert() {
        Checks.sentence(9, "Returns how many there are then.", () -> {
            for (int row : Checks.ROWS) {
                Overwalks x = new Overwalks();
                for (int many = 1; many <= 12; many++) {
                    Checks.due("insert ahead of " + many / 2, x.insert(row, many / 2, 5), many);
                }
            }
        });
        Checks.sentence(9, "One comes ahead of a PLACE.", () -> {
            for (int row : Checks.ROWS) {
                for (int many = 0; many <= 11; many++) {
                    for (int place = 0; place < many; place++) {
                        inserts(row, many, place, 50);
                        inserts(row, many, place, NOTHING);
                    }
                }
            }
        });
        Checks.sentence(9, "place: a PLACE, or how many there are", () -> {
            for (int row : Checks.ROWS) {
                for (int many = 0; many <= 11; many++) {
                    inserts(row, many, many, 0);
                    inserts(row, many, many, 99);
                }
            }
        });
        throwsIfNoneOfTheRows(9, (x, row) -> x.insert(row, 0, 5));
        Checks.sentence(9, "or there is no such PLACE", () -> {
            for (int row : Checks.ROWS) {
                for (int many : Checks.FILLINGS) {
                    Overwalks x = Checks.with(row, Checks.upTo(many));
                    for (int place : noPlacesOf(many + 1)) {
                        Checks.noPlace(x, "PLACE " + place + " of " + many, () -> x.insert(row, place, 5));
                    }
                }
            }
        });
        Checks.sentence(9, "Throws IllegalArgumentException if thing is not 0 to 100", () -> {
            for (int row : Checks.ROWS) {
                Overwalks x = Checks.with(row, 1, 2);
                for (int thing : Checks.NO_THINGS_OR_NOTHING) {
                    Checks.badArgument(x, "of " + thing, () -> x.insert(row, 2, thing));
                }
            }
        });
        Checks.sentence(9, "Throws IllegalStateException if 12 lie there", () -> {
            for (int row : Checks.ROWS) {
                Overwalks x = Checks.with(row, Checks.upTo(12));
                for (int place = 0; place <= 12; place++) {
                    int ahead = place;
                    Checks.badState(x, "ahead of " + place, () -> x.insert(row, ahead, 5));
                }
                x.remove(row, 3);
                Checks.due("a twelfth", x.insert(row, 3, 5), 12);
            }
        });
    }

    private static void inserts(int row, int many, int place, int thing) {
        Overwalks x = Checks.with(row, Checks.upTo(many));
        List<Integer> want = listUpTo(many);
        want.add(place, thing);
        x.insert(row, place, thing);
        Checks.due("row " + row + ", ahead of " + place, x.text(row), textOf(want));
    }

    private static void promise10Remove() {
        Checks.sentence(10, "What lies on a PLACE goes.", () -> {
            for (int row : Checks.ROWS) {
                for (int many : Checks.FILLINGS) {
                    for (int place = 0; place < many; place++) {
                        Overwalks x = Checks.with(row, Checks.upTo(many));
                        List<Integer> want = listUpTo(many);
                        want.remove(place);
                        x.remove(row, place);
                        Checks.due("row " + row + " of " + many, x.text(row), textOf(want));
                    }
                }
            }
        });
        Checks.sentence(10, "Returns what it was.", () -> {
            onEachRow((x, row, many) -> {
                for (int place = many - 1; place >= 0; place--) {
                    Checks.due("remove of the last", x.remove(row, place), place + 1);
                }
                Checks.due("none is left", x.size(row), 0);
            });
            for (int row : Checks.ROWS) {
                Overwalks x = Checks.with(row, 0, NOTHING, 99);
                Checks.due("NOTHING", x.remove(row, 1), NOTHING);
                Checks.due("99", x.remove(row, 1), 99);
                Checks.due("0", x.remove(row, 0), 0);
            }
        });
        throwsIfNoneOfTheRows(10, (x, row) -> x.remove(row, 0));
        Checks.sentence(10, "or there is no such PLACE", () -> {
            for (int row : Checks.ROWS) {
                for (int many : Checks.FILLINGS) {
                    Overwalks x = Checks.with(row, Checks.upTo(many));
                    for (int place : noPlacesOf(many)) {
                        Checks.noPlace(x, "PLACE " + place + " of " + many, () -> x.remove(row, place));
                    }
                }
            }
        });
    }

    private static void promise11Turn() {
        Checks.sentence(11, "The first PLACE and the last one change, and so on (Collections.reverse).",
                () -> onEachRow((x, row, many) -> {
            List<Integer> want = listUpTo(many);
            Collections.reverse(want);
            x.turn(row);
            Checks.due("row " + row, x.text(row), textOf(want));
            x.turn(row);
            Checks.due("turned back", x.text(row), textOf(listUpTo(many)));
        }));
        Checks.sentence(11, "Returns how many there are.", () -> onEachRow((x, row, many) ->
            Checks.due("turn(" + row + ")", x.turn(row), many)));
        throwsIfNoneOfTheRows(11, (x, row) -> x.turn(row));
    }

    private static void promise12Rotate() {
        Checks.sentence(12, "Returns how many there are.", () -> onEachRow((x, row, many) -> {
            for (int by = -20; by <= 20; by++) {
                Checks.due("rotate(" + row + ", " + by + ")", x.rotate(row, by), many);
            }
        }));
        Checks.sentence(12, "Each one goes so many PLACES on, from the end to the beginning again"
                + " (Collections.rotate).", () -> {
            for (int row : Checks.ROWS) {
                for (int many : Checks.FILLINGS) {
                    for (int by = 0; by <= 20; by++) {
                        rotates(row, many, by);
                    }
                }
            }
        });
        Checks.sentence(12, "by: by how many (below 0: back)", () -> {
            for (int row : Checks.ROWS) {
                for (int many : Checks.FILLINGS) {
                    for (int by = -20; by < 0; by++) {
                        rotates(row, many, by);
                    }
                }
            }
            Overwalks x = Checks.with(0, 1, 2, 3);
            x.rotate(0, -1);
            Checks.due("back by one", x.text(0), "2 3 1");
        });
        throwsIfNoneOfTheRows(12, (x, row) -> x.rotate(row, 1));
        Checks.sentence(12, "Throws IllegalArgumentException if by is not -20 to 20", () -> {
            for (int row : Checks.ROWS) {
                for (int many : new int[] {0, 1, 12}) {
                    Overwalks x = Checks.with(row, Checks.upTo(many));
                    for (int by : new int[] {-21, 21, Integer.MIN_VALUE, Integer.MAX_VALUE}) {
                        Checks.badArgument(x, "by " + by, () -> x.rotate(row, by));
                    }
                    Checks.due("by 20", x.rotate(row, 20), many);
                    Checks.due("by -20", x.rotate(row, -20), many);
                }
            }
        });
    }

    private static void rotates(int row, int many, int by) {
        Overwalks x = Checks.with(row, Checks.upTo(many));
        List<Integer> want = listUpTo(many);
        Collections.rotate(want, by);
        x.rotate(row, by);
        Checks.due(many + " rotated by " + by, x.text(row), textOf(want));
    }

    private static void promise13Swap() {
        Checks.sentence(13, "Returns what lies on the first one then.", () -> onEachRow((x, row, many) -> {
            for (int place = 1; place < many; place++) {
                Checks.due("swap with the first PLACE", x.swap(row, place, 0), place);
                Checks.due("swap with itself", x.swap(row, 0, 0), place + 1);
            }
            Checks.due("how many lie there", x.size(row), many);
        }));
        Checks.sentence(13, "Two PLACES change (Collections.swap).", () -> {
            for (int row : Checks.ROWS) {
                for (int many : Checks.FILLINGS) {
                    for (int place = 0; place < many; place++) {
                        for (int other = 0; other < many; other++) {
                            swaps(row, many, place, other);
                        }
                    }
                }
            }
        });
        Checks.sentence(13, "other: another one, or the same", () -> {
            for (int row : Checks.ROWS) {
                for (int place = 0; place < 12; place++) {
                    Overwalks x = Checks.with(row, Checks.upTo(12));
                    Checks.due("the same", x.swap(row, place, place), place + 1);
                    Checks.due("all stays", x.text(row), textOf(listUpTo(12)));
                }
            }
        });
        throwsIfNoneOfTheRows(13, (x, row) -> x.swap(row, 0, 1));
        Checks.sentence(13, "or there is no such PLACE (both)", () -> {
            for (int row : Checks.ROWS) {
                for (int many : Checks.FILLINGS) {
                    Overwalks x = Checks.with(row, Checks.upTo(many));
                    for (int place : noPlacesOf(many)) {
                        Checks.noPlace(x, "the first " + place, () -> x.swap(row, place, 0));
                        Checks.noPlace(x, "the other " + place, () -> x.swap(row, 0, place));
                        Checks.noPlace(x, "both " + place, () -> x.swap(row, place, place));
                    }
                }
            }
        });
    }

    private static void swaps(int row, int many, int place, int other) {
        Overwalks x = Checks.with(row, Checks.upTo(many));
        List<Integer> want = listUpTo(many);
        Collections.swap(want, place, other);
        x.swap(row, place, other);
        Checks.due(place + " and " + other + " of row " + row, x.text(row), textOf(want));
    }

    private static void promise14Fill() {
        Checks.sentence(14, "All become one (Collections.fill).", () -> onEachRow((x, row, many) -> {
            for (int thing : new int[] {0, 1, 99, NOTHING}) {
                x.fill(row, thing);
                Checks.due("row " + row, x.text(row), textOf(Collections.nCopies(many, thing)));
            }
        }));
        Checks.sentence(14, "Returns how many there are.", () -> onEachRow((x, row, many) -> {
            for (int thing : new int[] {0, 1, 99, NOTHING}) {
                Checks.due("fill(" + row + ", " + thing + ")", x.fill(row, thing), many);
            }
        }));
        throwsIfNoneOfTheRows(14, (x, row) -> x.fill(row, 5));
        Checks.sentence(14, "Throws IllegalArgumentException if thing is not 0 to 100", () -> {
            for (int row : Checks.ROWS) {
                for (int many : new int[] {0, 3}) {
                    Overwalks x = Checks.with(row, Checks.upTo(many));
                    for (int thing : Checks.NO_THINGS_OR_NOTHING) {
                        Checks.badArgument(x, "fill with " + thing, () -> x.fill(row, thing));
                    }
                }
            }
        });
    }

    private static void promise15Replace() {
        Checks.sentence(15, "All that are one become another one (Collections.replaceAll).", () -> {
            for (int row : Checks.ROWS) {
                for (int thing : new int[] {1, 2, 3, NOTHING}) {
                    for (int by : new int[] {0, 1, 99, NOTHING}) {
                        replaces(row, thing, by, 1, NOTHING, 1, 2, 2, 1, NOTHING, 2, 1, 1, 2, NOTHING);
                        replaces(row, thing, by, 1, 2, 3);
                        replaces(row, thing, by, NOTHING);
                        replaces(row, thing, by);
                    }
                }
            }
        });
        Checks.sentence(15, "Returns 1 if the first one lay there, otherwise 0.", () -> {
            for (int row : Checks.ROWS) {
                Overwalks x = Checks.with(row, 1, NOTHING, 2);
                Checks.due("one that lies there", x.replace(row, 1, 5), 1);
                Checks.due("it does so no more", x.replace(row, 1, 5), 0);
                Checks.due("by itself", x.replace(row, 5, 5), 1);
                Checks.due("by one that lies there", x.replace(row, 3, 2), 0);
                Checks.due("NOTHING", x.replace(row, NOTHING, 0), 1);
                Checks.due("NOTHING no more", x.replace(row, NOTHING, 0), 0);
                Checks.due("the last one", x.replace(row, 2, NOTHING), 1);
                Checks.due("row " + row, x.text(row), "5 0 -");
                Checks.due("on an empty one", new Overwalks().replace(row, 0, 0), 0);
            }
        });
        throwsIfNoneOfTheRows(15, (x, row) -> x.replace(row, 1, 5));
        Checks.sentence(15, "Throws IllegalArgumentException if one of both is not 0 to 100", () -> {
            for (int row : Checks.ROWS) {
                Overwalks x = Checks.with(row, 1, 2);
                for (int bad : Checks.NO_THINGS_OR_NOTHING) {
                    Checks.badArgument(x, "the first " + bad, () -> x.replace(row, bad, 5));
                    Checks.badArgument(x, "the other " + bad, () -> x.replace(row, 1, bad));
                    Checks.badArgument(x, "of what is not there by " + bad, () -> x.replace(row, 50, bad));
                    Checks.badArgument(x, "both " + bad, () -> x.replace(row, bad, bad));
                }
            }
        });
    }

    private static void replaces(int row, int thing, int by, int... some) {
        Overwalks x = Checks.with(row, some);
        List<Integer> want = thingsOn(x, row);
        boolean layThere = want.contains(thing);
        Collections.replaceAll(want, thing, by);
        Checks.due("replace(" + row + ", " + thing + ", " + by + ")", x.replace(row, thing, by), layThere ? 1 : 0);
        Checks.due("row " + row, x.text(row), textOf(want));
    }

    private static void promise16Copies() {
        Checks.sentence(16, "Returns how many there are then.", () -> onEachRow((x, row, many) -> {
            Checks.due("none", x.copies(row, 5, 0), many);
            Checks.due("up to 12", x.copies(row, 5, 12 - many), 12);
            Checks.due("none on 12", x.copies(row, 5, 0), 12);
        }));
        Checks.sentence(16, "One comes behind all, several times (Collections.nCopies).", () -> {
            for (int row : Checks.ROWS) {
                for (int lie : Checks.FILLINGS) {
                    for (int many = 0; many <= 12 - lie; many++) {
                        copies(row, lie, many, 50);
                        copies(row, lie, many, NOTHING);
                    }
                }
            }
        });
        throwsIfNoneOfTheRows(16, (x, row) -> x.copies(row, 5, 1));
        Checks.sentence(16, "Throws IllegalArgumentException if thing is not 0 to 100", () -> {
            for (int row : Checks.ROWS) {
                Overwalks x = new Overwalks();
                for (int thing : Checks.NO_THINGS_OR_NOTHING) {
                    Checks.badArgument(x, "of " + thing, () -> x.copies(row, thing, 1));
                    Checks.badArgument(x, "none of " + thing, () -> x.copies(row, thing, 0));
                }
                Checks.due("of 0", x.copies(row, 0, 1), 1);
                Checks.due("of 99", x.copies(row, 99, 1), 2);
            }
        });
        Checks.sentence(16, "or many not 0 to 12", () -> {
            for (int row : Checks.ROWS) {
                for (int lie : new int[] {0, 1, 12}) {
                    Overwalks x = Checks.with(row, Checks.upTo(lie));
                    for (int many : new int[] {-1, 13, Integer.MIN_VALUE, Integer.MAX_VALUE}) {
                        Checks.badArgument(x, many + " times", () -> x.copies(row, 1, many));
                    }
                    Checks.due("none", x.copies(row, 1, 0), lie);
                }
                Checks.due("12 times", new Overwalks().copies(row, 1, 12), 12);
            }
        });
        Checks.sentence(16, "Throws IllegalStateException if there would be more than 12", () -> {
            for (int row : Checks.ROWS) {
                for (int lie = 1; lie <= 12; lie++) {
                    Overwalks x = Checks.with(row, Checks.upTo(lie));
                    for (int many = 13 - lie; many <= 12; many++) {
                        int times = many;
                        Checks.badState(x, many + " on " + lie, () -> x.copies(row, 1, times));
                    }
                    Checks.due("12 then", x.copies(row, 1, 12 - lie), 12);
                }
            }
        });
    }

    private static void copies(int row, int lie, int many, int thing) {
        Overwalks x = Checks.with(row, Checks.upTo(lie));
        List<Integer> want = listUpTo(lie);
        want.addAll(Collections.nCopies(many, thing));
        x.copies(row, thing, many);
        Checks.due(many + " copies on " + lie + ", row " + row, x.text(row), textOf(want));
    }
}
