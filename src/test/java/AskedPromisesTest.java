/** Promises 28 to 45: what is asked. */
public final class AskedPromisesTest {
    private static final int NONE = Checks.NONE;
    private static final int NOTHING = Checks.NOTHING;

    /** A question of one SHELF. */
    private interface ShelfQuestion {
        Object answer(Overwalks x, int shelf);
    }

    public static void main(String[] args) {
        promise28And29Texts();
        promise30And31Size();
        promise32Has();
        promise33Often();
        promise34PlaceOf();
        promise35Disjoint();
        promise36End();
        promise37Code();
        promise38AreAlike();
        promise39First();
        promise40ValueOf();
        promise41OfWalk();
        promise42House();
        promise43Knock();
        promise44IsSound();
        promise45Digest();
        Checks.end();
    }

    private static void promise28And29Texts() {
        for (int shelf = 0; shelf <= 10; shelf++) {
            int asked = shelf;
            Overwalks x = new Overwalks();
            Checks.onlyAsks(x, "text of none", () -> x.text(asked), "");
            Checks.onlyAsks(x, "list of none", () -> x.list(asked), "");
            Checks.lay(x, shelf, 5);
            Checks.onlyAsks(x, "text of one", () -> x.text(asked), "5");
            Checks.onlyAsks(x, "list of one", () -> x.list(asked), "5");
            Checks.lay(x, shelf, 10, 99);
            Checks.onlyAsks(x, "text of three", () -> x.text(asked), "5 10 99");
            Checks.onlyAsks(x, "list of three", () -> x.list(asked), "5 10 99");
        }
        Overwalks x = Checks.with(4, NOTHING, 0);
        Checks.onlyAsks(x, "text with NOTHING", () -> x.text(4), "- 0");
        Checks.onlyAsks(x, "list with NOTHING", () -> x.list(4), "- 0");
        x.pair(3, 1);
        x.pair(2, 7);
        Checks.due("KEYS", x.text(6) + "," + x.list(6), "2 3,2 3");
        Checks.due("VALUES", x.text(7) + "," + x.list(7), "7 1,7 1");
        needsAShelf("text", (y, shelf) -> y.text(shelf));
        needsAShelf("list", (y, shelf) -> y.list(shelf));
    }

    private static void promise30And31Size() {
        for (int shelf = 0; shelf <= 10; shelf++) {
            int asked = shelf;
            for (int many = 0; many <= 12; many++) {
                Overwalks x = Checks.with(shelf, Checks.upTo(many));
                Checks.onlyAsks(x, "size", () -> x.size(asked), many);
                Checks.onlyAsks(x, "isEmpty", () -> x.isEmpty(asked), many == 0);
            }
        }
        Overwalks x = Checks.with(0, NOTHING);
        Checks.due("a NOTHING lies there", x.isEmpty(0), false);
        needsAShelf("size", (y, shelf) -> y.size(shelf));
        needsAShelf("isEmpty", (y, shelf) -> y.isEmpty(shelf));
    }

    private static void promise32Has() {
        for (int shelf = 0; shelf <= 10; shelf++) {
            int asked = shelf;
            Overwalks x = Checks.with(shelf, 4, 0, 99);
            Checks.onlyAsks(x, "the first", () -> x.has(asked, 4), 1);
            Checks.onlyAsks(x, "the last", () -> x.has(asked, 99), 1);
            Checks.onlyAsks(x, "not there", () -> x.has(asked, 5), 0);
            if (shelf == 3 || shelf >= 5 && shelf <= 7) {
                Checks.refused(x, "NOTHING of " + shelf, () -> x.has(asked, NOTHING));
            } else {
                Checks.onlyAsks(x, "no NOTHING", () -> x.has(asked, NOTHING), 0);
                x.put(shelf, NOTHING);
                Checks.onlyAsks(x, "NOTHING", () -> x.has(asked, NOTHING), 1);
            }
        }
        needsAShelfAndAThing("has", (x, shelf, thing) -> x.has(shelf, thing));
        Overwalks x = new Overwalks();
        x.pair(1, 2);
        Checks.due("a KEY is no VALUE", x.has(7, 1) + x.has(6, 2), 0);
    }

    private static void promise33Often() {
        for (int row : Checks.ROWS) {
            Overwalks x = Checks.with(row, 7, NOTHING, 7, NOTHING, NOTHING, 8);
            Checks.onlyAsks(x, "two", () -> x.often(row, 7), 2);
            Checks.onlyAsks(x, "of NOTHING", () -> x.often(row, NOTHING), 3);
            Checks.onlyAsks(x, "the last", () -> x.often(row, 8), 1);
            Checks.onlyAsks(x, "none", () -> x.often(row, 0), 0);
        }
        for (int shelf : Checks.TAKE_NO_NOTHINGS) {
            Overwalks x = Checks.with(shelf, 7, 8);
            Checks.onlyAsks(x, "of NOTHING on " + shelf, () -> x.often(shelf, NOTHING), 0);
            Checks.onlyAsks(x, "of one on " + shelf, () -> x.often(shelf, 7), 1);
        }
        Overwalks x = new Overwalks();
        x.pair(1, 5);
        x.pair(2, 5);
        Checks.due("of VALUES", x.often(7, 5), 2);
        needsAShelfAndAThing("often", (y, shelf, thing) -> y.often(shelf, thing));
    }

    private static void promise34PlaceOf() {
        for (int row : Checks.ROWS) {
            Overwalks x = Checks.with(row, 7, NOTHING, 7, NOTHING, 8);
            Checks.onlyAsks(x, "first 7", () -> x.placeOf(row, 7, false), 0);
            Checks.onlyAsks(x, "last 7", () -> x.placeOf(row, 7, true), 2);
            Checks.onlyAsks(x, "first NOTHING", () -> x.placeOf(row, NOTHING, false), 1);
            Checks.onlyAsks(x, "last NOTHING", () -> x.placeOf(row, NOTHING, true), 3);
            Checks.onlyAsks(x, "first 8", () -> x.placeOf(row, 8, false), 4);
            Checks.onlyAsks(x, "last 8", () -> x.placeOf(row, 8, true), 4);
            Checks.onlyAsks(x, "first of none", () -> x.placeOf(row, 0, false), NONE);
            Checks.onlyAsks(x, "last of none", () -> x.placeOf(row, 0, true), NONE);
            x.change(row, 0, 6);
            Checks.onlyAsks(x, "last on PLACE 0", () -> x.placeOf(row, 6, true), 0);
            x.remove(row, 4);
            Checks.due("what is gone", x.placeOf(row, 8, true), NONE);
            for (int thing : Checks.NO_THINGS_OR_NOTHING) {
                Checks.badArgument(x, "place of " + thing, () -> x.placeOf(row, thing, true));
            }
        }
        Overwalks x = Checks.with(3, 1, 2);
        for (int shelf : Checks.NO_ROWS) {
            Checks.noPlace(x, "place on " + shelf, () -> x.placeOf(shelf, 101, false));
        }
    }

    private static void promise35Disjoint() {
        Overwalks x = Checks.with(0, 1, 2);
        Checks.lay(x, 3, 2, 3);
        Checks.lay(x, 5, 3, 4);
        Checks.onlyAsks(x, "something lies on both", () -> x.disjoint(0, 3), 0);
        Checks.onlyAsks(x, "the other way round", () -> x.disjoint(3, 0), 0);
        Checks.onlyAsks(x, "nothing lies on both", () -> x.disjoint(0, 5), 1);
        Checks.onlyAsks(x, "with itself", () -> x.disjoint(0, 0), 0);
        Checks.onlyAsks(x, "with an empty one", () -> x.disjoint(0, 6), 1);
        Checks.onlyAsks(x, "an empty one with itself", () -> x.disjoint(7, 7), 1);
        x.put(4, NOTHING);
        for (int shelf : Checks.TAKE_NO_NOTHINGS) {
            Checks.refused(x, "NOTHING first, and " + shelf, () -> x.disjoint(4, shelf));
            Checks.refused(x, "NOTHING last, and " + shelf, () -> x.disjoint(shelf, 4));
        }
        Checks.onlyAsks(x, "the other one takes it", () -> x.disjoint(4, 0), 1);
        x.put(0, NOTHING);
        Checks.onlyAsks(x, "NOTHING lies on both", () -> x.disjoint(4, 0), 0);
        Checks.refused(x, "also if something lies on both", () -> x.disjoint(3, 0));
        for (int shelf : Checks.NO_SHELVES) {
            Checks.noPlace(x, "of " + shelf, () -> x.disjoint(shelf, 0));
            Checks.noPlace(x, "with " + shelf, () -> x.disjoint(0, shelf));
        }
    }

    private static void promise36End() {
        for (int shelf = 0; shelf <= 10; shelf++) {
            int asked = shelf;
            Overwalks x = new Overwalks();
            Checks.refused(x, "least of none", () -> x.end(asked, true));
            Checks.refused(x, "greatest of none", () -> x.end(asked, false));
            Checks.lay(x, shelf, 50);
            Checks.onlyAsks(x, "least of one", () -> x.end(asked, true), 50);
            Checks.onlyAsks(x, "greatest of one", () -> x.end(asked, false), 50);
            Checks.lay(x, shelf, 3, 98, 40);
            Checks.onlyAsks(x, "least", () -> x.end(asked, true), 3);
            Checks.onlyAsks(x, "greatest", () -> x.end(asked, false), 98);
        }
        for (int shelf : new int[] {0, 1, 2, 4, 8, 9, 10}) {
            Overwalks x = Checks.with(shelf, 3, NOTHING);
            Checks.refused(x, "least with NOTHING", () -> x.end(shelf, true));
            Checks.refused(x, "greatest with NOTHING", () -> x.end(shelf, false));
        }
        needsAShelf("end", (y, shelf) -> y.end(shelf, true));
    }

    private static void promise37Code() {
        Overwalks x = new Overwalks();
        Checks.onlyAsks(x, "of none", () -> x.code(0), 1);
        x.put(0, 5);
        Checks.onlyAsks(x, "of one", () -> x.code(0), 36);
        x.put(0, NOTHING);
        Checks.onlyAsks(x, "with NOTHING", () -> x.code(0), 36 * 31);
        x.put(0, 99);
        Checks.onlyAsks(x, "with 99", () -> x.code(0), 36 * 31 * 31 + 99);
        for (int shelf = 0; shelf <= 10; shelf++) {
            Overwalks full = Checks.with(shelf, 88, 89, 90, 91, 92, 93, 94, 95, 96, 97, 98, 99);
            int wrapped = java.util.List.of(88, 89, 90, 91, 92, 93, 94, 95, 96, 97, 98, 99).hashCode();
            int asked = shelf;
            Checks.onlyAsks(full, "wraps around", () -> full.code(asked), wrapped);
        }
        needsAShelf("code", (y, shelf) -> y.code(shelf));
    }

    private static void promise38AreAlike() {
        Overwalks x = Checks.with(0, 1, 2);
        Checks.lay(x, 3, 2, 1);
        Checks.lay(x, 5, 2, 1);
        Checks.lay(x, 8, 1, 2, 3);
        Checks.lay(x, 6, 1, 2);
        Checks.onlyAsks(x, "the same", () -> x.areAlike(0, 3), true);
        Checks.onlyAsks(x, "another SEQUENCE", () -> x.areAlike(0, 5), false);
        Checks.onlyAsks(x, "one more", () -> x.areAlike(0, 8), false);
        Checks.onlyAsks(x, "one less", () -> x.areAlike(8, 0), false);
        Checks.onlyAsks(x, "KEYS", () -> x.areAlike(6, 0), true);
        Checks.onlyAsks(x, "itself", () -> x.areAlike(8, 8), true);
        Checks.onlyAsks(x, "both empty", () -> x.areAlike(1, 4), true);
        Checks.lay(x, 1, NOTHING);
        Checks.lay(x, 4, NOTHING);
        Checks.onlyAsks(x, "NOTHINGS", () -> x.areAlike(1, 4), true);
        x.change(1, 0, 0);
        Checks.onlyAsks(x, "NOTHING is not 0", () -> x.areAlike(1, 4), false);
        for (int shelf : Checks.NO_SHELVES) {
            Checks.noPlace(x, "of " + shelf, () -> x.areAlike(shelf, 0));
            Checks.noPlace(x, "with " + shelf, () -> x.areAlike(0, shelf));
        }
    }

    private static void promise39First() {
        for (int shelf = 0; shelf <= 10; shelf++) {
            int asked = shelf;
            Overwalks x = new Overwalks();
            Checks.refused(x, "first of none", () -> x.first(asked, false));
            Checks.refused(x, "last of none", () -> x.first(asked, true));
            Checks.lay(x, shelf, 3, 4, 9);
            Checks.onlyAsks(x, "first", () -> x.first(asked, false), 3);
            Checks.onlyAsks(x, "last", () -> x.first(asked, true), 9);
        }
        Overwalks x = Checks.with(4, NOTHING);
        Checks.onlyAsks(x, "NOTHING first", () -> x.first(4, false), NOTHING);
        Checks.onlyAsks(x, "NOTHING last", () -> x.first(4, true), NOTHING);
        needsAShelf("first", (y, shelf) -> y.first(shelf, true));
    }

    private static void promise40ValueOf() {
        Overwalks x = new Overwalks();
        Checks.onlyAsks(x, "of none", () -> x.valueOf(0), NONE);
        x.pair(99, 0);
        x.pair(0, 99);
        x.pair(5, 7);
        Checks.onlyAsks(x, "of 0", () -> x.valueOf(0), 99);
        Checks.onlyAsks(x, "of 5", () -> x.valueOf(5), 7);
        Checks.onlyAsks(x, "of 99", () -> x.valueOf(99), 0);
        Checks.onlyAsks(x, "of a VALUE", () -> x.valueOf(7), NONE);
        x.pair(5, 8);
        Checks.due("the new VALUE", x.valueOf(5), 8);
        x.take(6, 5);
        Checks.due("gone", x.valueOf(5), NONE);
        for (int key : new int[] {-1, 100, Integer.MIN_VALUE, Integer.MAX_VALUE}) {
            Checks.badArgument(x, "of " + key, () -> x.valueOf(key));
        }
    }

    private static void promise41OfWalk() {
        Overwalks x = Checks.with(8, 1, 2, 3);
        for (int walk = 0; walk <= 5; walk++) {
            int asked = walk;
            for (int what = 0; what <= 3; what++) {
                int of = what;
                Checks.onlyAsks(x, "none was made", () -> x.ofWalk(asked, of), NONE);
            }
            x.walk(walk, 8, 1);
            x.skip(walk, 2);
            Checks.onlyAsks(x, "SHELF", () -> x.ofWalk(asked, 0), 8);
            Checks.onlyAsks(x, "HOW", () -> x.ofWalk(asked, 1), 1);
            Checks.onlyAsks(x, "GIVEN", () -> x.ofWalk(asked, 2), 2);
            Checks.onlyAsks(x, "not STALE", () -> x.ofWalk(asked, 3), 0);
        }
        x.take(8, 1);
        Checks.onlyAsks(x, "STALE", () -> x.ofWalk(3, 3), 1);
        Checks.onlyAsks(x, "GIVEN of a STALE one", () -> x.ofWalk(3, 2), 2);
        x.drop(3);
        Checks.onlyAsks(x, "dropped", () -> x.ofWalk(3, 3), NONE);
        for (int walk : Checks.NO_WALKS) {
            Checks.noPlace(x, "of " + walk, () -> x.ofWalk(walk, 4));
        }
        for (int what : new int[] {-1, 4, Integer.MIN_VALUE, Integer.MAX_VALUE}) {
            Checks.badArgument(x, "what " + what, () -> x.ofWalk(0, what));
            Checks.badArgument(x, "what " + what + " of none", () -> x.ofWalk(3, what));
        }
    }

    private static void promise42House() {
        Overwalks x = new Overwalks();
        for (int shelf = 0; shelf <= 10; shelf++) {
            if (shelf != 7) {
                Checks.lay(x, shelf, 1, 2);
            }
        }
        Checks.onlyAsks(x, "how many lie there", () -> x.house(0), 22);
        for (int shelf : new int[] {0, 1, 2, 4, 8, 9, 10}) {
            x.put(shelf, NOTHING);
        }
        x.put(10, NOTHING);
        Checks.onlyAsks(x, "NOTHINGS", () -> x.house(1), 8);
        Checks.onlyAsks(x, "all", () -> x.house(0), 30);
        x.walk(0, 0, 0);
        x.walk(5, 10, 1);
        x.walk(2, 3, 1);
        Checks.onlyAsks(x, "WALKS", () -> x.house(2), 3);
        Checks.onlyAsks(x, "none STALE", () -> x.house(3), 0);
        x.clear(0);
        x.clear(10);
        Checks.onlyAsks(x, "two STALE", () -> x.house(3), 2);
        x.drop(0);
        Checks.onlyAsks(x, "a dropped one is not STALE", () -> x.house(3), 1);
        Checks.onlyAsks(x, "WALKS that there are", () -> x.house(2), 2);
        x.next(5);
        x.put(3, NOTHING);
        x.rest(2);
        Checks.onlyAsks(x, "REFUSED", () -> x.house(4), 3);
        x.knock();
        x.knock();
        Checks.onlyAsks(x, "knocks", () -> x.house(5), 2);
        for (int what : new int[] {-1, 6, Integer.MIN_VALUE, Integer.MAX_VALUE}) {
            Checks.badArgument(x, "house(" + what + ")", () -> x.house(what));
        }
    }

    private static void promise43Knock() {
        Overwalks x = new Overwalks();
        for (int times = 1; times <= 20; times++) {
            Checks.due("knock", x.knock(), times);
            Checks.due("house(5)", x.house(5), times);
        }
    }

    private static void promise44IsSound() {
        Overwalks x = new Overwalks();
        Checks.onlyAsks(x, "a new one", () -> x.isSound(), true);
        for (int shelf = 0; shelf <= 10; shelf++) {
            if (shelf != 7) {
                Checks.lay(x, shelf, 9, 5, 7);
            }
        }
        x.put(4, NOTHING);
        x.put(0, NOTHING);
        for (int walk = 0; walk <= 5; walk++) {
            x.walk(walk, walk, 1);
            x.next(walk);
        }
        x.put(1, 3);
        String ahead = Checks.state(x) + x.house(4);
        Checks.due("with things and walks", x.isSound(), true);
        Checks.due("nothing is counted, no WALK goes on", Checks.state(x) + x.house(4), ahead);
        Checks.due("what was given last can be taken out", x.takeOut(0), 3);
        for (int shelf = 0; shelf <= 10; shelf++) {
            for (int thing = 20; x.size(shelf) < 12; thing++) {
                Checks.lay(x, shelf, thing);
            }
        }
        Checks.onlyAsks(x, "all full", () -> x.isSound(), true);
    }

    private static void promise45Digest() {
        Overwalks x = new Overwalks();
        Checks.due("a new one", x.digest(), Checks.reckoned(x, true));
        x.putAll(0, 1, NOTHING, 3, 4);
        x.putAll(3, 9, 8, 7, NONE);
        x.pair(3, 4);
        x.put(10, NOTHING);
        x.walk(0, 0, 1);
        x.walk(5, 6, 0);
        x.next(0);
        x.pair(1, 1);
        x.knock();
        x.first(9, true);
        Checks.due("with all sorts", x.digest(), Checks.reckoned(x, true));
        Checks.due("again", x.digest(), Checks.reckoned(x, true));
    }

    /** A question of one SHELF and one THING. */
    private interface ThingQuestion {
        Object answer(Overwalks x, int shelf, int thing);
    }

    private static void needsAShelf(String name, ShelfQuestion question) {
        Overwalks x = Checks.with(0, 1);
        for (int shelf : Checks.NO_SHELVES) {
            Checks.noPlace(x, name + " of " + shelf, () -> question.answer(x, shelf));
        }
    }

    private static void needsAShelfAndAThing(String name, ThingQuestion question) {
        Overwalks x = Checks.with(0, 1);
        for (int shelf : Checks.NO_SHELVES) {
            Checks.noPlace(x, name + " of " + shelf, () -> question.answer(x, shelf, 101));
        }
        for (int thing : Checks.NO_THINGS_OR_NOTHING) {
            for (int shelf = 0; shelf <= 10; shelf++) {
                int asked = shelf;
                Checks.badArgument(x, name + " of " + thing, () -> question.answer(x, asked, thing));
            }
        }
    }
}
