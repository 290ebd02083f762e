/** Promises 1 to 16: a new object, and what is laid on shelves. */
public final class ShelfPromisesTest {
    private static final int NONE = Checks.NONE;
    private static final int NOTHING = Checks.NOTHING;

    public static void main(String[] args) {
        promise1NewObject();
        promise2Put();
        promise3PutAll();
        promise4Take();
        promise5Clear();
        promise6Pair();
        promise7Pour();
        promise8Change();
        promise9Insert();
        promise10Remove();
        promise11Turn();
        promise12Rotate();
        promise13Swap();
        promise14Fill();
        promise15Replace();
        promise16Copies();
        Checks.end();
    }

    private static void promise1NewObject() {
        Overwalks x = new Overwalks();
        for (int shelf = 0; shelf <= 10; shelf++) {
            Checks.due("new: text(" + shelf + ")", x.text(shelf), "");
            Checks.due("new: size(" + shelf + ")", x.size(shelf), 0);
        }
        for (int walk = 0; walk <= 5; walk++) {
            Checks.due("new: ofWalk(" + walk + ", 0)", x.ofWalk(walk, 0), NONE);
        }
        for (int what = 0; what <= 5; what++) {
            Checks.due("new: house(" + what + ")", x.house(what), 0);
        }
        Overwalks y = new Overwalks();
        y.put(0, 1);
        y.knock();
        Checks.due("another object's call is not seen", x.house(0) + x.house(5), 0);
    }

    private static void promise2Put() {
        for (int row : Checks.ROWS) {
            Overwalks x = Checks.with(row, 7, 0, NOTHING, 7, 99);
            Checks.due("put on row " + row, x.text(row), "7 0 - 7 99");
            Checks.due("put again", x.put(row, 7), 1);
        }
        Overwalks x = Checks.with(3, 9, 0, 99, 5);
        Checks.due("put on RISING", x.text(3), "0 5 9 99");
        Checks.due("put what is there", x.put(3, 9), 0);
        Checks.due("put what is not there", x.put(3, 6), 1);
        x = Checks.with(4, 9, NOTHING, 2);
        Checks.due("put on KEPT", x.text(4), "9 - 2");
        Checks.due("put NOTHING again", x.put(4, NOTHING), 0);
        Checks.due("put 9 again", x.put(4, 9), 0);
        Checks.due("stays where it is", x.text(4), "9 - 2");
        x = Checks.with(5, 3, 1, 3);
        Checks.due("put on the QUEUE", x.text(5), "3 1 3");

        Overwalks wrong = Checks.with(6, 1, 2);
        Checks.refused(wrong, "put on KEYS", () -> wrong.put(6, 5));
        Checks.refused(wrong, "put on VALUES", () -> wrong.put(7, 5));
        Checks.refused(wrong, "put NOTHING on RISING", () -> wrong.put(3, NOTHING));
        Checks.refused(wrong, "put NOTHING on the QUEUE", () -> wrong.put(5, NOTHING));
        for (int shelf : Checks.NO_SHELVES) {
            Checks.noPlace(wrong, "put(" + shelf + ", -1)", () -> wrong.put(shelf, -1));
        }
        for (int shelf = 0; shelf <= 10; shelf++) {
            int on = shelf;
            Overwalks full = Checks.with(on, Checks.upTo(12));
            for (int thing : Checks.NO_THINGS_OR_NOTHING) {
                Checks.badArgument(full, "put(" + on + ", " + thing + ")", () -> full.put(on, thing));
            }
            Checks.badState(full, "put what is there on full " + on, () -> full.put(on, 1));
            Checks.badState(full, "put NOTHING on full " + on, () -> full.put(on, NOTHING));
            Checks.badState(full, "put on full " + on, () -> full.put(on, 50));
        }
    }

    private static void promise3PutAll() {
        Overwalks x = new Overwalks();
        Checks.due("four", x.putAll(0, 4, NOTHING, 2, 4), 1);
        Checks.due("up to NONE", x.putAll(0, 7, NONE, 8, 9), 1);
        Checks.due("none counts", x.putAll(0, NONE, 1, 2, 3), 0);
        Checks.due("text", x.text(0), "4 - 2 4 7");
        Checks.due("NOTHING behind NONE counts not", x.putAll(3, 5, 1, NONE, NOTHING), 1);
        Checks.due("RISING", x.text(3), "1 5");
        Checks.due("all there", x.putAll(3, 1, 5, 1, NONE), 0);
        Checks.due("one is new, the last is not", x.putAll(3, 3, 5, NONE, NONE), 1);
        Checks.due("KEPT", x.putAll(4, NOTHING, 3, NOTHING, 1), 1);
        Checks.due("KEPT text", x.text(4), "- 3 1");
        Checks.due("the QUEUE", x.putAll(5, 1, 1, 1, NONE), 1);

        Checks.refused(x, "KEYS", () -> x.putAll(6, 1, NONE, NONE, NONE));
        Checks.refused(x, "VALUES, none counts", () -> x.putAll(7, NONE, NONE, NONE, NONE));
        Checks.refused(x, "NOTHING last on RISING", () -> x.putAll(3, 7, 8, 9, NOTHING));
        Checks.refused(x, "NOTHING first on the QUEUE", () -> x.putAll(5, NOTHING, 8, 9, 9));
        for (int shelf : Checks.NO_SHELVES) {
            Checks.noPlace(x, "putAll(" + shelf + ")", () -> x.putAll(shelf, -2, 0, 0, 0));
        }
        for (int wrong : new int[] {-2, 101, Integer.MIN_VALUE, Integer.MAX_VALUE}) {
            Checks.badArgument(x, "a " + wrong, () -> x.putAll(0, wrong, 1, 1, 1));
            Checks.badArgument(x, "b " + wrong, () -> x.putAll(0, 1, wrong, 1, 1));
            Checks.badArgument(x, "c " + wrong, () -> x.putAll(0, NONE, 1, wrong, 1));
            Checks.badArgument(x, "d " + wrong, () -> x.putAll(0, 1, NONE, 1, wrong));
        }
        for (int shelf = 0; shelf <= 10; shelf++) {
            int on = shelf;
            Overwalks ten = Checks.with(on, Checks.upTo(10));
            Checks.badState(ten, "13 on " + on, () -> ten.putAll(on, 1, 2, 3, NONE));
            Checks.badState(ten, "14 with NOTHING on " + on, () -> ten.putAll(on, NOTHING, 2, 3, 4));
            Checks.badArgument(ten, "also if too many", () -> ten.putAll(on, 1, 2, 3, 101));
        }
        Overwalks ten = Checks.with(3, Checks.upTo(10));
        Checks.due("12 together", ten.putAll(3, 20, 30, NONE, NONE), 1);
        Checks.due("none on a full one", ten.putAll(3, NONE, 1, 1, 1), 0);
    }

    private static void promise4Take() {
        for (int row : Checks.ROWS) {
            Overwalks x = Checks.with(row, 1, NOTHING, 2, 1, NOTHING);
            Checks.due("take 1", x.take(row, 1), 1);
            Checks.due("the first goes", x.text(row), "- 2 1 -");
            Checks.due("take NOTHING", x.take(row, NOTHING), 1);
            Checks.due("the first NOTHING goes", x.text(row), "2 1 -");
            Checks.due("take what is not there", x.take(row, 50), 0);
        }
        Overwalks x = Checks.with(3, 4, 2);
        Checks.due("of RISING", x.take(3, 2), 1);
        Checks.due("of RISING again", x.take(3, 2), 0);
        Checks.due("RISING", x.text(3), "4");
        x.putAll(4, 8, NOTHING, 7, NONE);
        Checks.due("of KEPT", x.take(4, NOTHING), 1);
        Checks.due("KEPT", x.text(4), "8 7");
        x.putAll(5, 6, 5, 6, NONE);
        Checks.due("of the QUEUE", x.take(5, 6), 1);
        Checks.due("QUEUE", x.text(5), "5 6");
        x.pair(9, 1);
        x.pair(4, 2);
        x.pair(6, 1);
        Checks.due("of VALUES", x.take(7, 1), 1);
        Checks.due("the smallest KEY's pair goes", x.text(6) + "/" + x.text(7), "4 9/2 1");
        Checks.due("of KEYS", x.take(6, 4), 1);
        Checks.due("its VALUE goes", x.text(6) + "/" + x.text(7), "9/1");
        Checks.due("of KEYS none", x.take(6, 1), 0);
        Checks.due("of VALUES none", x.take(7, 9), 0);
        for (int shelf : Checks.TAKE_NO_NOTHINGS) {
            Checks.refused(x, "take NOTHING of " + shelf, () -> x.take(shelf, NOTHING));
        }
        for (int shelf : Checks.NO_SHELVES) {
            Checks.noPlace(x, "take of " + shelf, () -> x.take(shelf, 101));
        }
        for (int thing : Checks.NO_THINGS_OR_NOTHING) {
            Checks.badArgument(x, "take " + thing, () -> x.take(3, thing));
        }
    }

    private static void promise5Clear() {
        for (int shelf = 0; shelf <= 10; shelf++) {
            Overwalks x = Checks.with(shelf, 3, 1, 2);
            x.walk(0, shelf, 0);
            Checks.due("clear(" + shelf + ")", x.clear(shelf), 3);
            Checks.due("stale then", Checks.isStale(x, 0), true);
            Checks.due("all goes", x.house(0), 0);
            x.walk(0, shelf, 0);
            Checks.due("clear again", x.clear(shelf), 0);
            Checks.due("nothing went", Checks.isStale(x, 0), false);
        }
        Overwalks x = Checks.with(6, 3, 1, 2);
        x.walk(0, 6, 1);
        x.walk(1, 7, 1);
        x.put(0, 1);
        x.clear(7);
        Checks.due("of VALUES the whole TABLE", x.size(6) + x.size(7), 0);
        Checks.due("both SHIFTED", Checks.isStale(x, 0) && Checks.isStale(x, 1), true);
        Checks.due("another SHELF stays", x.size(0), 1);
        x.walk(2, 0, 1);
        Checks.due("clear of one", x.clear(0), 1);
        Checks.due("stale then", Checks.isStale(x, 2), true);
        for (int shelf : Checks.NO_SHELVES) {
            Checks.noPlace(x, "clear " + shelf, () -> x.clear(shelf));
        }
    }

    private static void promise6Pair() {
        Overwalks x = new Overwalks();
        Checks.due("a KEY", x.pair(50, 0), NONE);
        Checks.due("a smaller one", x.pair(0, 99), NONE);
        Checks.due("a greater one", x.pair(99, 0), NONE);
        Checks.due("KEYS", x.text(6), "0 50 99");
        Checks.due("VALUES", x.text(7), "99 0 0");
        x.walk(0, 6, 1);
        x.walk(1, 7, 1);
        Checks.due("next(1)", x.next(1), 99);
        Checks.due("another VALUE", x.pair(50, 8), 0);
        Checks.due("and again", x.pair(50, 9), 8);
        Checks.due("not SHIFTED", Checks.isStale(x, 0) || Checks.isStale(x, 1), false);
        Checks.due("as it stands at the time", x.next(1), 9);
        x.pair(7, 7);
        Checks.due("both SHIFTED", Checks.isStale(x, 0) && Checks.isStale(x, 1), true);
        Checks.due("VALUES", x.text(7), "99 7 9 0");
        for (int wrong : new int[] {-1, 100, Integer.MIN_VALUE, Integer.MAX_VALUE}) {
            Checks.badArgument(x, "KEY " + wrong, () -> x.pair(wrong, 1));
            Checks.badArgument(x, "VALUE " + wrong, () -> x.pair(1, wrong));
        }
        Overwalks full = Checks.with(6, Checks.upTo(12));
        Checks.due("a KEY of a full TABLE", full.pair(12, 70), 12);
        Checks.badState(full, "13th KEY", () -> full.pair(0, 1));
        Checks.badArgument(full, "13th KEY, wrong VALUE", () -> full.pair(0, 100));
        Checks.due("12 lie there", full.size(6) + full.size(7), 24);
    }

    private static void promise7Pour() {
        Overwalks x = Checks.with(0, 5, NOTHING, 1);
        Checks.due("on another row", x.pour(0, 9), 1);
        Checks.due("its text", x.text(9), "5 - 1");
        Checks.due("the first stays", x.text(0), "5 - 1");
        Checks.due("on itself", x.pour(0, 0), 1);
        Checks.due("itself twice", x.text(0), "5 - 1 5 - 1");
        Checks.due("on KEPT", x.pour(0, 4), 1);
        Checks.due("KEPT", x.text(4), "5 - 1");
        Checks.due("on KEPT again", x.pour(0, 4), 0);
        Checks.due("KEPT on itself", x.pour(4, 4), 0);
        Checks.due("an empty one", x.pour(10, 0), 0);
        Checks.due("an empty one on itself", x.pour(10, 10), 0);
        Checks.refused(x, "NOTHING on RISING", () -> x.pour(0, 3));
        Checks.refused(x, "NOTHING on the QUEUE", () -> x.pour(4, 5));
        Checks.refused(x, "on KEYS", () -> x.pour(3, 6));
        Checks.refused(x, "on VALUES", () -> x.pour(9, 7));
        x.pair(9, 3);
        x.pair(2, 4);
        Checks.due("KEYS on RISING", x.pour(6, 3), 1);
        Checks.due("VALUES on RISING", x.pour(7, 3), 1);
        Checks.due("RISING", x.text(3), "2 3 4 9");
        Checks.due("RISING on itself", x.pour(3, 3), 0);
        Checks.due("VALUES on the QUEUE", x.pour(7, 5), 1);
        Checks.due("QUEUE", x.text(5), "4 3");
        Checks.refused(x, "KEYS on KEYS", () -> x.pour(6, 6));
        for (int shelf : Checks.NO_SHELVES) {
            Checks.noPlace(x, "from " + shelf, () -> x.pour(shelf, 0));
            Checks.noPlace(x, "into " + shelf, () -> x.pour(0, shelf));
        }
        Overwalks seven = Checks.with(4, 1, 2, 3, 4, 5, 6, NOTHING);
        Checks.badState(seven, "14 of KEPT on itself", () -> seven.pour(4, 4));
        Checks.lay(seven, 3, 1, 2, 3, 4, 5, 6);
        Checks.badState(seven, "13 with NOTHING on RISING", () -> seven.pour(4, 3));
        seven.clear(3);
        Checks.lay(seven, 3, 1, 2, 3, 4, 5);
        Checks.refused(seven, "12 with NOTHING on RISING", () -> seven.pour(4, 3));
        Checks.due("12 together", seven.pour(3, 4), 0);
        Checks.lay(seven, 6, 1, 2, 3, 4, 5, 6);
        Checks.badState(seven, "13 on KEYS", () -> seven.pour(4, 6));
        Checks.refused(seven, "12 of VALUES on KEYS", () -> seven.pour(7, 6));
    }

    private static void promise8Change() {
        for (int row : Checks.ROWS) {
            Overwalks x = Checks.with(row, 5, NOTHING, 7);
            Checks.due("the first", x.change(row, 0, NOTHING), 5);
            Checks.due("NOTHING", x.change(row, 1, 0), NOTHING);
            Checks.due("the last", x.change(row, 2, 99), 7);
            Checks.due("text", x.text(row), "- 0 99");
            Checks.noPlace(x, "behind the last", () -> x.change(row, 3, 101));
            Checks.noPlace(x, "below 0", () -> x.change(row, -1, 1));
            for (int thing : Checks.NO_THINGS_OR_NOTHING) {
                Checks.badArgument(x, "change to " + thing, () -> x.change(row, 1, thing));
            }
        }
        noOtherThanRows("change", (x, row) -> x.change(row, 0, 101));
        turnsButShiftsNot("change", (x, row) -> x.change(row, 0, 1));
    }

    private static void promise9Insert() {
        for (int row : Checks.ROWS) {
            Overwalks x = new Overwalks();
            Checks.due("into an empty one", x.insert(row, 0, 5), 1);
            Checks.due("ahead", x.insert(row, 0, NOTHING), 2);
            Checks.due("between", x.insert(row, 1, 7), 3);
            Checks.due("behind", x.insert(row, 3, 5), 4);
            Checks.due("text", x.text(row), "- 7 5 5");
            Checks.noPlace(x, "further", () -> x.insert(row, 5, 101));
            Checks.noPlace(x, "below 0", () -> x.insert(row, -1, 1));
            for (int thing : Checks.NO_THINGS_OR_NOTHING) {
                Checks.badArgument(x, "insert " + thing, () -> x.insert(row, 0, thing));
            }
            Overwalks full = Checks.with(row, Checks.upTo(12));
            Checks.badState(full, "13th", () -> full.insert(row, 12, 1));
            Checks.badState(full, "13th ahead", () -> full.insert(row, 0, NOTHING));
            Checks.noPlace(full, "13th further", () -> full.insert(row, 13, 1));
            Checks.badArgument(full, "13th wrong", () -> full.insert(row, 0, 101));
        }
        noOtherThanRows("insert", (x, row) -> x.insert(row, 0, 101));
        shifts("insert", (x, row) -> x.insert(row, 0, 1));
    }

    private static void promise10Remove() {
        for (int row : Checks.ROWS) {
            Overwalks x = Checks.with(row, 1, NOTHING, 1, 4);
            Checks.due("the last", x.remove(row, 3), 4);
            Checks.due("a NOTHING", x.remove(row, 1), NOTHING);
            Checks.due("text", x.text(row), "1 1");
            Checks.due("the first", x.remove(row, 0), 1);
            Checks.noPlace(x, "behind the last", () -> x.remove(row, 1));
            Checks.noPlace(x, "below 0", () -> x.remove(row, -1));
            Checks.due("the only one", x.remove(row, 0), 1);
            Checks.noPlace(x, "of an empty one", () -> x.remove(row, 0));
        }
        noOtherThanRows("remove", (x, row) -> x.remove(row, 0));
        shifts("remove", (x, row) -> x.remove(row, 0));
    }

    private static void promise11Turn() {
        for (int row : Checks.ROWS) {
            Overwalks x = Checks.with(row, 1, 2, NOTHING);
            Checks.due("three", x.turn(row), 3);
            Checks.due("text", x.text(row), "- 2 1");
            x.put(row, 4);
            Checks.due("four", x.turn(row), 4);
            Checks.due("text", x.text(row), "4 1 2 -");
            x.clear(row);
            Checks.due("empty", x.turn(row), 0);
        }
        noOtherThanRows("turn", (x, row) -> x.turn(row));
        turnsButShiftsNot("turn", (x, row) -> x.turn(row));
    }

    private static void promise12Rotate() {
        String[] due = {"1 2 3 4 5", "5 1 2 3 4", "4 5 1 2 3", "3 4 5 1 2", "2 3 4 5 1"};
        for (int row : Checks.ROWS) {
            for (int by = -20; by <= 20; by++) {
                Overwalks x = Checks.with(row, 1, 2, 3, 4, 5);
                Checks.due("rotate by " + by, x.rotate(row, by), 5);
                Checks.due("text by " + by, x.text(row), due[Math.floorMod(by, 5)]);
            }
            Overwalks x = new Overwalks();
            Checks.due("an empty one", x.rotate(row, 3), 0);
            x.put(row, NOTHING);
            Checks.due("one", x.rotate(row, -7), 1);
            Checks.due("text", x.text(row), "-");
            for (int by : new int[] {-21, 21, Integer.MIN_VALUE, Integer.MAX_VALUE}) {
                Checks.badArgument(x, "by " + by, () -> x.rotate(row, by));
            }
        }
        noOtherThanRows("rotate", (x, row) -> x.rotate(row, 21));
        turnsButShiftsNot("rotate", (x, row) -> x.rotate(row, 1));
        turnsButShiftsNot("rotate by 0", (x, row) -> x.rotate(row, 0));
    }

    private static void promise13Swap() {
        for (int row : Checks.ROWS) {
            Overwalks x = Checks.with(row, 1, NOTHING, 3);
            Checks.due("two", x.swap(row, 0, 2), 3);
            Checks.due("text", x.text(row), "3 - 1");
            Checks.due("NOTHING", x.swap(row, 2, 1), NOTHING);
            Checks.due("text", x.text(row), "3 1 -");
            Checks.due("the same", x.swap(row, 1, 1), 1);
            Checks.due("text", x.text(row), "3 1 -");
            for (int place : new int[] {-1, 3, Integer.MIN_VALUE, Integer.MAX_VALUE}) {
                Checks.noPlace(x, "swap " + place, () -> x.swap(row, place, 0));
                Checks.noPlace(x, "swap with " + place, () -> x.swap(row, 0, place));
            }
        }
        noOtherThanRows("swap", (x, row) -> x.swap(row, 0, 0));
        turnsButShiftsNot("swap", (x, row) -> x.swap(row, 0, 0));
    }

    private static void promise14Fill() {
        for (int row : Checks.ROWS) {
            Overwalks x = Checks.with(row, 1, NOTHING, 3);
            Checks.due("fill", x.fill(row, 8), 3);
            Checks.due("text", x.text(row), "8 8 8");
            Checks.due("fill with NOTHING", x.fill(row, NOTHING), 3);
            Checks.due("text", x.text(row), "- - -");
            for (int thing : Checks.NO_THINGS_OR_NOTHING) {
                Checks.badArgument(x, "fill with " + thing, () -> x.fill(row, thing));
            }
            x.clear(row);
            Checks.due("fill an empty one", x.fill(row, 8), 0);
            Checks.due("text", x.text(row), "");
        }
        noOtherThanRows("fill", (x, row) -> x.fill(row, 101));
        turnsButShiftsNot("fill", (x, row) -> x.fill(row, 1));
    }

    private static void promise15Replace() {
        for (int row : Checks.ROWS) {
            Overwalks x = Checks.with(row, 1, NOTHING, 1, 4);
            Checks.due("all", x.replace(row, 1, 9), 1);
            Checks.due("text", x.text(row), "9 - 9 4");
            Checks.due("NOTHING", x.replace(row, NOTHING, 4), 1);
            Checks.due("by NOTHING", x.replace(row, 9, NOTHING), 1);
            Checks.due("text", x.text(row), "- 4 - 4");
            Checks.due("by the same", x.replace(row, 4, 4), 1);
            Checks.due("not there", x.replace(row, 50, 4), 0);
            Checks.due("text", x.text(row), "- 4 - 4");
            for (int thing : Checks.NO_THINGS_OR_NOTHING) {
                Checks.badArgument(x, "replace " + thing, () -> x.replace(row, thing, 1));
                Checks.badArgument(x, "replace by " + thing, () -> x.replace(row, 1, thing));
            }
        }
        noOtherThanRows("replace", (x, row) -> x.replace(row, 101, 1));
        turnsButShiftsNot("replace", (x, row) -> x.replace(row, 5, 1));
        turnsButShiftsNot("replace what is not there", (x, row) -> x.replace(row, 50, 1));
    }

    private static void promise16Copies() {
        for (int row : Checks.ROWS) {
            Overwalks x = Checks.with(row, 1);
            Checks.due("two", x.copies(row, 7, 2), 3);
            Checks.due("NOTHING", x.copies(row, NOTHING, 1), 4);
            Checks.due("text", x.text(row), "1 7 7 -");
            x.walk(0, row, 1);
            Checks.due("none", x.copies(row, 7, 0), 4);
            Checks.due("nothing came", Checks.isStale(x, 0), false);
            for (int thing : Checks.NO_THINGS_OR_NOTHING) {
                Checks.badArgument(x, "copies of " + thing, () -> x.copies(row, thing, 12));
            }
            for (int many : new int[] {-1, 13, Integer.MIN_VALUE, Integer.MAX_VALUE}) {
                Checks.badArgument(x, many + " copies", () -> x.copies(row, 1, many));
            }
            Checks.badState(x, "13 then", () -> x.copies(row, 1, 9));
            Checks.due("12 then", x.copies(row, 1, 8), 12);
            Checks.badState(x, "one more", () -> x.copies(row, 1, 1));
            Checks.due("none more", x.copies(row, 1, 0), 12);
            x.clear(row);
            Checks.due("12 at once", x.copies(row, 1, 12), 12);
        }
        noOtherThanRows("copies", (x, row) -> x.copies(row, 101, 13));
        shifts("copies", (x, row) -> x.copies(row, 1, 1));
    }

    /** A call upon one of the ROWS. */
    private interface RowCall {
        int answer(Overwalks x, int row);
    }

    private static void noOtherThanRows(String name, RowCall call) {
        Overwalks x = new Overwalks();
        for (int shelf : new int[] {3, 4, 5, 6}) {
            Checks.lay(x, shelf, 1, 2, 3);
        }
        for (int shelf : Checks.NO_ROWS) {
            Checks.noPlace(x, name + " of " + shelf, () -> call.answer(x, shelf));
        }
    }

    private static void turnsButShiftsNot(String name, RowCall call) {
        for (int row : Checks.ROWS) {
            Overwalks x = Checks.with(row, 5, 6, 5);
            x.walk(0, row, 1);
            x.walk(1, (row == 0 ? 1 : 0), 1);
            x.next(0);
            call.answer(x, row);
            Checks.due(name + " SHIFTS not", Checks.isStale(x, 0), false);
            Checks.refused(x, "takeOut behind " + name, () -> x.takeOut(0));
            x.next(0);
            Checks.due("takeOut behind the next one", x.takeOut(0), 2);
        }
    }

    private static void shifts(String name, RowCall call) {
        for (int row : Checks.ROWS) {
            Overwalks x = Checks.with(row, 5, 6, 5);
            int other = row == 0 ? 1 : 0;
            x.walk(0, row, 0);
            x.walk(1, row, 1);
            x.walk(2, other, 1);
            call.answer(x, row);
            Checks.due(name + " SHIFTS", Checks.isStale(x, 0) && Checks.isStale(x, 1), true);
            Checks.due(name + " SHIFTS no other", Checks.isStale(x, 2), false);
        }
    }
}
