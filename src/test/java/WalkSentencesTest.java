import java.util.function.BiFunction;

/** Promises 17 to 27, sentence by sentence. */
public final class WalkSentencesTest {
    private static final int NONE = Checks.NONE;
    private static final int NOTHING = Checks.NOTHING;
    private static final int[] OTHER_HOWS = {-1, 3, Integer.MIN_VALUE, Integer.MAX_VALUE};

    public static void main(String[] args) {
        promise17Walk();
        promise18Next();
        promise19More();
        promise20TakeOut();
        promise21Rest();
        promise22KeepRest();
        promise22KeepRestRefuses();
        promise23Keep();
        promise24Drop();
        promise25Skip();
        promise26PourRest();
        promise26PourRestRefuses();
        promise26PourRestThrows();
        promise27Zip();
        promise27ZipThrows();
        Checks.end();
    }

    /** What of 1 .. many lies behind the first ones, as a text. */
    private static String textFrom(int ahead, int many) {
        StringBuilder text = new StringBuilder();
        for (int thing = ahead + 1; thing <= many; thing++) {
            text.append(thing == ahead + 1 ? "" : " ").append(thing);
        }
        return text.toString();
    }

    /** 1 .. many on a SHELF, and WALK 0 over it that gave so many. */
    private static Overwalks walked(int shelf, int how, int many, int given) {
        Overwalks x = Checks.with(shelf, Checks.upTo(many));
        x.walk(0, shelf, how);
        x.skip(0, given);
        return x;
    }

    /** What is looked at when WALK 0 gave so many of 1 .. many and can give all that it has. */
    private interface RestTest {
        void look(Overwalks x, int shelf, int many, int given);
    }

    private static void onEachThatGivesAll(RestTest test) {
        for (int shelf : Checks.SHELVES) {
            for (int how : Checks.howsThatGiveAll(shelf)) {
                for (int many : Checks.FILLINGS) {
                    for (int given = 0; given <= many; given++) {
                        test.look(walked(shelf, how, many, given), shelf, many, given);
                    }
                }
            }
        }
    }

    private static void throwsIfThereIsNoSuchWalk(int promise, BiFunction<Overwalks, Integer, Object> call) {
        Checks.sentence(promise, "Throws IndexOutOfBoundsException if there is no such WALK", () -> {
            Overwalks x = Checks.with(0, 1, 2);
            for (int walk : Checks.NO_WALKS) {
                Checks.noPlace(x, "WALK " + walk, () -> call.apply(x, walk));
            }
            for (int walk : Checks.WALKS) {
                x.walk(walk, 0, 0);
                Checks.due("there is WALK " + walk, call.apply(x, walk) != null, true);
            }
        });
    }

    private static void throwsIfNoneWasMade(int promise, BiFunction<Overwalks, Integer, Object> call) {
        Checks.sentence(promise, "Throws IllegalStateException if none was made", () -> {
            Overwalks x = Checks.with(0, 1, 2);
            for (int walk : Checks.WALKS) {
                Checks.badState(x, "WALK " + walk, () -> call.apply(x, walk));
                x.walk(walk, 0, 0);
                x.drop(walk);
                Checks.badState(x, "WALK " + walk + ", gone", () -> call.apply(x, walk));
                x.walk(walk, 0, 0);
                Checks.due("WALK " + walk + ", made", call.apply(x, walk) != null, true);
                Checks.makeStale(x, walk, 0, 1);
                x.drop(walk);
                Checks.badState(x, "WALK " + walk + ", gone when STALE", () -> call.apply(x, walk));
            }
        });
    }

    private static void refusedIfStale(int promise, String words, BiFunction<Overwalks, Integer, Object> call) {
        Checks.sentence(promise, words, () -> {
            for (int shelf : Checks.SHELVES) {
                for (int how : Checks.howsOver(shelf)) {
                    for (int many : new int[] {0, 1, 2, 5}) {
                        Overwalks x = Checks.with(shelf, Checks.upTo(many));
                        for (int given = 0; given <= many; given++) {
                            x.walk(0, shelf, how);
                            x.skip(0, given);
                            Checks.shift(x, shelf);
                            Checks.refused(x, "STALE over " + shelf + " by " + how, () -> call.apply(x, 0));
                            Checks.refused(x, "again", () -> call.apply(x, 0));
                        }
                    }
                }
            }
        });
    }

    private static void promise17Walk() {
        Checks.sentence(17, "A WALK is made (what it was is gone).", () -> {
            for (int walk : Checks.WALKS) {
                Overwalks x = Checks.with(0, 1, 2, 3);
                Checks.lay(x, 5, 7, 8);
                x.walk(walk, 0, 1);
                x.skip(walk, 2);
                x.walk(walk, 5, 0);
                Checks.due("its SHELF", x.ofWalk(walk, 0), 5);
                Checks.due("its HOW", x.ofWalk(walk, 1), 0);
                Checks.due("GIVEN", x.ofWalk(walk, 2), 0);
                Checks.due("next", x.next(walk), 7);
                Checks.makeStale(x, walk, 5, 1);
                x.walk(walk, 0, 2);
                Checks.due("not STALE", x.ofWalk(walk, 3), 0);
                Checks.due("the first again", x.next(walk), 1);
                x.walk(walk, 0, 1);
                Checks.refused(x, "what it gave ahead is gone", () -> x.takeOut(walk));
                Checks.due("WALKS", x.house(2), 1);
                x.skip(walk, 2);
                x.takeOut(walk);
                x.walk(walk, 0, 1);
                Checks.due("what it took out is forgotten", x.next(walk), 1);
                Checks.due("all the others are ahead", x.skip(walk, 12), 1);
                Checks.due("GIVEN anew", x.ofWalk(walk, 2), 2);
            }
        });
        Checks.sentence(17, "Returns how many lie there.", () -> {
            for (int shelf : Checks.SHELVES) {
                for (int how : Checks.howsOver(shelf)) {
                    for (int many : Checks.FILLINGS) {
                        Overwalks x = Checks.with(shelf, Checks.upTo(many));
                        Checks.due("walk over " + shelf, x.walk(5, shelf, how), many);
                    }
                }
            }
        });
        Checks.sentence(17, "Throws IndexOutOfBoundsException if there is no such WALK or SHELF", () -> {
            Overwalks x = new Overwalks();
            for (int walk : Checks.NO_WALKS) {
                Checks.noPlace(x, "WALK " + walk, () -> x.walk(walk, 0, 0));
            }
            for (int shelf : Checks.NO_SHELVES) {
                for (int how : new int[] {0, 1, 2, 3}) {
                    Checks.noPlace(x, "SHELF " + shelf, () -> x.walk(0, shelf, how));
                }
            }
        });
        Checks.sentence(17, "Throws IllegalArgumentException if how is not 0 to 2", () -> {
            for (int shelf : Checks.SHELVES) {
                Overwalks x = Checks.with(shelf, 1);
                x.walk(0, shelf, 0);
                for (int how : OTHER_HOWS) {
                    Checks.badArgument(x, "HOW " + how, () -> x.walk(0, shelf, how));
                    Checks.badArgument(x, "HOW " + how, () -> x.walk(1, shelf, how));
                }
                Checks.due("it is what it was", x.next(0), 1);
            }
        });
        Checks.sentence(17, "or 2 with another SHELF than 0", () -> {
            for (int shelf = 1; shelf <= 10; shelf++) {
                int other = shelf;
                Overwalks x = Checks.with(shelf, 1);
                x.walk(0, shelf, 1);
                Checks.badArgument(x, "ELEMENTS of " + shelf, () -> x.walk(0, other, 2));
                Checks.badArgument(x, "ELEMENTS of " + shelf, () -> x.walk(1, other, 2));
            }
            Checks.due("ELEMENTS of the VECTOR", Checks.with(0, 1).walk(0, 0, 2), 1);
        });
    }

    private static void promise18Next() {
        Checks.sentence(18, "A WALK gives one.", () -> {
            for (int shelf : Checks.SHELVES) {
                for (int how : Checks.howsOver(shelf)) {
                    Overwalks x = walked(shelf, how, 12, 0);
                    for (int given = 1; given <= 12; given++) {
                        x.next(0);
                        Checks.due("GIVEN", x.ofWalk(0, 2), given);
                        Checks.due("MORE", x.more(0), given < 12 ? 1 : 0);
                    }
                }
            }
        });
        Checks.sentence(18, "Returns the THING, or NOTHING", () -> {
            for (int shelf : Checks.SHELVES) {
                for (int how : Checks.howsOver(shelf)) {
                    Overwalks x = Checks.with(shelf, 0, 50, 99);
                    x.walk(0, shelf, how);
                    Checks.due("the first", x.next(0), 0);
                    Checks.due("the second", x.next(0), 50);
                    Checks.due("the last", x.next(0), 99);
                    Checks.due("GIVEN", x.ofWalk(0, 2), 3);
                }
            }
            for (int shelf : Checks.TAKE_NOTHINGS) {
                for (int how : Checks.howsOver(shelf)) {
                    Overwalks x = Checks.with(shelf, 4, NOTHING);
                    x.walk(0, shelf, how);
                    Checks.due("the first", x.next(0), 4);
                    Checks.due("NOTHING", x.next(0), NOTHING);
                }
            }
        });
        refusedIfStale(18, "REFUSED if it is STALE", Overwalks::next);
        Checks.sentence(18, "or has no MORE.", () -> {
            for (int shelf : Checks.SHELVES) {
                for (int how : Checks.howsOver(shelf)) {
                    for (int many : Checks.FILLINGS) {
                        Overwalks x = walked(shelf, how, many, many);
                        Checks.refused(x, "behind " + many, () -> x.next(0));
                        Checks.refused(x, "again", () -> x.next(0));
                        Checks.due("GIVEN", x.ofWalk(0, 2), many);
                    }
                }
            }
        });
        throwsIfThereIsNoSuchWalk(18, Overwalks::next);
        throwsIfNoneWasMade(18, Overwalks::next);
    }

    private static void promise19More() {
        Checks.sentence(19, "Returns 1 if it has MORE, 0 if not", () -> {
            for (int shelf : Checks.SHELVES) {
                for (int how : Checks.howsOver(shelf)) {
                    for (int many : Checks.FILLINGS) {
                        for (int given = 0; given <= many; given++) {
                            Overwalks x = walked(shelf, how, many, given);
                            Checks.onlyAsks(x, given + " of " + many, () -> x.more(0), given < many ? 1 : 0);
                        }
                    }
                }
            }
            Overwalks x = walked(0, 1, 2, 2);
            x.takeOut(0);
            Checks.due("behind takeOut of the last", x.more(0), 0);
        });
        refusedIfStale(19, "REFUSED if it is STALE.", Overwalks::more);
        throwsIfThereIsNoSuchWalk(19, Overwalks::more);
        throwsIfNoneWasMade(19, Overwalks::more);
    }

    private static void promise20TakeOut() {
        Checks.sentence(20, "Returns how many lie on its SHELF then", () -> {
            for (int shelf : Checks.SHELVES) {
                if (shelf != 7) {
                    Overwalks x = walked(shelf, 1, 12, 0);
                    for (int left = 11; left >= 0; left--) {
                        x.next(0);
                        Checks.due("takeOut over " + shelf, x.takeOut(0), left);
                        Checks.due("size(" + shelf + ")", x.size(shelf), left);
                    }
                }
            }
        });
        Checks.sentence(20, "A WALK TAKES OUT what it gave last.", () -> {
            for (int shelf : Checks.SHELVES) {
                if (shelf != 7) {
                    for (int many = 1; many <= 12; many++) {
                        for (int given = 1; given <= many; given++) {
                            takesOutOne(shelf, many, given);
                        }
                    }
                }
            }
        });
        refusedIfStale(20, "REFUSED if it is STALE", Overwalks::takeOut);
        Checks.sentence(20, "no ITERATOR", () -> {
            for (int shelf : Checks.SHELVES) {
                for (int how : Checks.howsThatGiveAll(shelf)) {
                    Overwalks x = walked(shelf, how, 3, 2);
                    Checks.refused(x, "HOW " + how + " over " + shelf, () -> x.takeOut(0));
                }
            }
        });
        Checks.sentence(20, "over VALUES", () -> {
            Overwalks x = walked(7, 1, 3, 2);
            Checks.refused(x, "an ITERATOR over VALUES", () -> x.takeOut(0));
            Checks.due("over KEYS it can", walked(6, 1, 3, 2).takeOut(0), 2);
        });
        Checks.sentence(20, "gave none", () -> {
            for (int shelf : Checks.SHELVES) {
                for (int many : new int[] {0, 1, 12}) {
                    Overwalks x = walked(shelf, 1, many, 0);
                    Checks.refused(x, "over " + shelf, () -> x.takeOut(0));
                    x.more(0);
                    x.skip(0, 0);
                    Checks.refused(x, "behind more and skip of none", () -> x.takeOut(0));
                }
                Overwalks x = walked(shelf, 1, 0, 0);
                x.next(0);
                Checks.refused(x, "behind a refused next", () -> x.takeOut(0));
            }
        });
        Checks.sentence(20, "or took that out", () -> {
            for (int shelf : Checks.SHELVES) {
                if (shelf != 7) {
                    Overwalks x = walked(shelf, 1, 4, 2);
                    Checks.due("takeOut over " + shelf, x.takeOut(0), 3);
                    Checks.refused(x, "again", () -> x.takeOut(0));
                    x.skip(0, 12);
                    Checks.due("the last one", x.takeOut(0), 2);
                    Checks.refused(x, "again, behind all", () -> x.takeOut(0));
                    x.next(0);
                    Checks.refused(x, "again, behind a refused next", () -> x.takeOut(0));
                    Checks.due("what stays", x.text(shelf), "1 3");
                }
            }
        });
        Checks.sentence(20, "or its SHELF was TURNED since.", () -> {
            for (int row : Checks.ROWS) {
                for (int given = 1; given <= 3; given++) {
                    Overwalks x = walked(row, 1, 3, given);
                    x.change(row, given - 1, given);
                    Checks.refused(x, "row " + row, () -> x.takeOut(0));
                    Checks.due("all stays", x.text(row), "1 2 3");
                    Checks.due("it goes on", x.more(0), given < 3 ? 1 : 0);
                }
            }
        });
        throwsIfThereIsNoSuchWalk(20, Overwalks::takeOut);
        throwsIfNoneWasMade(20, Overwalks::takeOut);
    }

    private static void takesOutOne(int shelf, int many, int given) {
        Overwalks x = walked(shelf, 1, many, given);
        x.takeOut(0);
        Checks.due("size", x.size(shelf), many - 1);
        Checks.due("what it gave last went", x.has(shelf, given), 0);
        Checks.due("GIVEN", x.ofWalk(0, 2), given);
        if (given < many) {
            Checks.due("the next one", x.next(0), given + 1);
        } else {
            Checks.due("no MORE", x.more(0), 0);
        }
        if (shelf == 6) {
            Checks.due("its VALUE went", x.has(7, given), 0);
        }
    }

    private static void promise21Rest() {
        Checks.sentence(21, "A WALK gives all that it has (Collections.list).", () ->
            onEachThatGivesAll((x, shelf, many, given) -> {
                x.rest(0);
                Checks.due("GIVEN", x.ofWalk(0, 2), many);
                Checks.due("no MORE", x.more(0), 0);
                Checks.due("all stays", x.size(shelf), many);
            }));
        Checks.sentence(21, "Returns these, as a text", () -> {
            onEachThatGivesAll((x, shelf, many, given) -> {
                Checks.due("rest", x.rest(0), textFrom(given, many));
                Checks.due("rest again", x.rest(0), "");
            });
            Overwalks x = Checks.with(2, NOTHING, 5, NOTHING);
            x.walk(0, 2, 0);
            Checks.due("NOTHINGS", x.rest(0), "- 5 -");
        });
        refusedIfStale(21, "\"!\" (REFUSED) if it is STALE", Overwalks::rest);
        Checks.sentence(21, "or an ITERATOR.", () -> {
            for (int shelf : Checks.SHELVES) {
                for (int given = 0; given <= 3; given++) {
                    Overwalks x = walked(shelf, 1, 3, given);
                    Checks.refused(x, "over " + shelf, () -> x.rest(0));
                }
            }
        });
        throwsIfThereIsNoSuchWalk(21, Overwalks::rest);
        throwsIfNoneWasMade(21, Overwalks::rest);
    }

    private static void promise22KeepRest() {
        Checks.sentence(22, "Returns how many it gave", () -> {
            for (int list : Checks.LISTS) {
                onEachThatGivesAll((x, shelf, many, given) -> {
                    if (shelf != list) {
                        Checks.due("keepRest of " + shelf, x.keepRest(0, list), many - given);
                        Checks.due("keepRest again", x.keepRest(0, list), 0);
                    }
                });
            }
        });
        Checks.sentence(22, "Likewise; a LIST is made of it.", () -> {
            for (int list : Checks.LISTS) {
                onEachThatGivesAll((x, shelf, many, given) -> {
                    if (shelf != list) {
                        Checks.lay(x, list, Checks.upTo(12));
                        x.keepRest(0, list);
                        Checks.due("LIST " + list, x.text(list), textFrom(given, many));
                        Checks.due("GIVEN", x.ofWalk(0, 2), many);
                        Checks.due("no MORE", x.more(0), 0);
                        Checks.due("the SHELF stays", x.size(shelf), many);
                    }
                });
            }
            Overwalks x = Checks.with(4, NOTHING, 5);
            Checks.lay(x, 9, 1, 2, 3);
            x.walk(0, 4, 0);
            Checks.due("NOTHING is kept", x.keepRest(0, 9), 2);
            Checks.due("what was there is gone", x.text(9), "- 5");
            Checks.due("none", x.keepRest(0, 9), 0);
            Checks.due("the LIST is empty then", x.text(9), "");
        });
        Checks.sentence(22, "Throws IndexOutOfBoundsException if there is no such WALK or LIST", () -> {
            Overwalks x = Checks.with(0, 1);
            x.walk(0, 0, 0);
            for (int walk : Checks.NO_WALKS) {
                Checks.noPlace(x, "WALK " + walk, () -> x.keepRest(walk, 8));
            }
            for (int list : Checks.NO_LISTS) {
                Checks.noPlace(x, "LIST " + list, () -> x.keepRest(0, list));
            }
            for (int shelf = 1; shelf <= 7; shelf++) {
                int none = shelf;
                Checks.noPlace(x, "SHELF " + none, () -> x.keepRest(0, none));
            }
        });
        throwsIfNoneWasMade(22, (x, walk) -> x.keepRest(walk, 8));
    }

    private static void promise22KeepRestRefuses() {
        refusedIfStale(22, "REFUSED if it is STALE", (x, walk) -> x.keepRest(walk, 10));
        Checks.sentence(22, "or an ITERATOR", () -> {
            for (int shelf : Checks.SHELVES) {
                for (int list : Checks.LISTS) {
                    for (int given = 0; given <= 3; given++) {
                        Overwalks x = walked(shelf, 1, 3, given);
                        Checks.refused(x, "over " + shelf, () -> x.keepRest(0, list));
                    }
                }
            }
        });
        Checks.sentence(22, "or over that LIST.", () -> {
            for (int list : Checks.LISTS) {
                for (int given = 0; given <= 3; given++) {
                    Overwalks x = walked(list, 0, 3, given);
                    Checks.refused(x, "over " + list, () -> x.keepRest(0, list));
                    int other = list == 8 ? 9 : 8;
                    Checks.due("upon another LIST", x.keepRest(0, other), 3 - given);
                }
                Overwalks x = walked(list, 0, 0, 0);
                Checks.refused(x, "over the empty " + list, () -> x.keepRest(0, list));
            }
        });
    }

    private static void promise23Keep() {
        Checks.sentence(23, "Returns how many it has.", () -> {
            for (int list : Checks.LISTS) {
                for (int shelf : Checks.SHELVES) {
                    for (int many : Checks.FILLINGS) {
                        Overwalks x = Checks.with(shelf, Checks.upTo(many));
                        Checks.due("keep(" + list + ", " + shelf + ")", x.keep(list, shelf), many);
                        Checks.due("size(" + list + ")", x.size(list), many);
                    }
                }
            }
        });
        Checks.sentence(23, "A LIST is made of a SHELF (Collections.list of an ENUMERATION).", () -> {
            for (int list : Checks.LISTS) {
                for (int shelf : Checks.SHELVES) {
                    for (int many : Checks.FILLINGS) {
                        Overwalks x = Checks.with(shelf, Checks.upTo(many));
                        if (shelf != list) {
                            Checks.lay(x, list, Checks.upTo(12));
                        }
                        x.keep(list, shelf);
                        Checks.due("LIST " + list, x.text(list), textFrom(0, many));
                        Checks.due("the SHELF stays", x.size(shelf), many);
                    }
                }
            }
        });
        Checks.sentence(23, "shelf: the SHELF (also that LIST)", () -> {
            for (int list : Checks.LISTS) {
                Overwalks x = Checks.with(list, 4, NOTHING, 4);
                x.walk(0, list, 0);
                Checks.due("keep(" + list + ", " + list + ")", x.keep(list, list), 3);
                Checks.due("the same", x.text(list), "4 - 4");
                Checks.due("but it is made anew", x.ofWalk(0, 3), 1);
                x.change(list, 0, 5);
                Checks.due("it is a LIST as ahead", x.text(list), "5 - 4");
            }
        });
        Checks.sentence(23, "Throws IndexOutOfBoundsException if there is no such LIST or SHELF", () -> {
            Overwalks x = Checks.with(8, 1);
            for (int list : Checks.NO_LISTS) {
                Checks.noPlace(x, "LIST " + list, () -> x.keep(list, 0));
            }
            for (int shelf = 1; shelf <= 7; shelf++) {
                int none = shelf;
                Checks.noPlace(x, "SHELF " + shelf + " as a LIST", () -> x.keep(none, 0));
            }
            for (int shelf : Checks.NO_SHELVES) {
                Checks.noPlace(x, "SHELF " + shelf, () -> x.keep(8, shelf));
                Checks.noPlace(x, "both " + shelf, () -> x.keep(shelf, shelf));
            }
        });
    }

    private static void promise24Drop() {
        Checks.sentence(24, "A WALK is gone.", () -> {
            for (int walk : Checks.WALKS) {
                for (int shelf : Checks.SHELVES) {
                    for (int how : Checks.howsOver(shelf)) {
                        isGone(walk, shelf, how);
                    }
                }
            }
        });
        Checks.sentence(24, "Returns 1 if there was one, otherwise 0.", () -> {
            for (int walk : Checks.WALKS) {
                for (int shelf : Checks.SHELVES) {
                    for (int how : Checks.howsOver(shelf)) {
                        dropsOnce(walk, shelf, how);
                    }
                }
            }
        });
        Checks.sentence(24, "Throws IndexOutOfBoundsException if there is no such WALK", () -> {
            Overwalks x = new Overwalks();
            for (int walk : Checks.WALKS) {
                x.walk(walk, 0, 0);
            }
            for (int walk : Checks.NO_WALKS) {
                Checks.noPlace(x, "WALK " + walk, () -> x.drop(walk));
            }
        });
    }

    private static void isGone(int walk, int shelf, int how) {
        Overwalks x = Checks.with(shelf, 1, 2);
        int other = (walk + 1) % 6;
        x.walk(walk, shelf, how);
        x.walk(other, shelf, how);
        x.drop(walk);
        Checks.due("ofWalk", x.ofWalk(walk, 0), NONE);
        Checks.due("house(2)", x.house(2), 1);
        Checks.badState(x, "next", () -> x.next(walk));
        Checks.due("the other one stays", x.next(other), 1);
        Checks.makeStale(x, walk, shelf, how);
        Checks.due("house(3)", x.house(3), 2);
        x.drop(walk);
        Checks.due("house(3) then", x.house(3), 1);
    }

    private static void dropsOnce(int walk, int shelf, int how) {
        Overwalks x = Checks.with(shelf, 1, 2);
        Checks.due("none was made", x.drop(walk), 0);
        x.walk(walk, shelf, how);
        Checks.due("there was one", x.drop(walk), 1);
        Checks.due("there was none", x.drop(walk), 0);
        Checks.makeStale(x, walk, shelf, how);
        Checks.due("there was a STALE one", x.drop(walk), 1);
        Checks.due("there was none then", x.drop(walk), 0);
    }

    private static void promise25Skip() {
        Checks.sentence(25, "A WALK gives up to so many, which are forgotten.", () -> {
            for (int shelf : Checks.SHELVES) {
                for (int how : Checks.howsOver(shelf)) {
                    for (int many : Checks.FILLINGS) {
                        for (int upTo : Checks.FILLINGS) {
                            Overwalks x = walked(shelf, how, many, 0);
                            x.skip(0, upTo);
                            Checks.due("GIVEN", x.ofWalk(0, 2), Math.min(upTo, many));
                            Checks.due("the next", x.next(0), upTo < many ? upTo + 1 : Checks.REFUSED);
                            Checks.due("all stays", x.size(shelf), many);
                        }
                    }
                }
            }
        });
        Checks.sentence(25, "Returns how many it gave", () -> {
            for (int shelf : Checks.SHELVES) {
                for (int how : Checks.howsOver(shelf)) {
                    for (int many : Checks.FILLINGS) {
                        skipsInTwoSteps(shelf, how, many);
                    }
                }
            }
        });
        refusedIfStale(25, "REFUSED if it is STALE.", (x, walk) -> x.skip(walk, 1));
        Checks.sentence(25, "many: how many", () -> {
            for (int shelf : Checks.SHELVES) {
                Overwalks x = Checks.with(shelf, 1);
                Checks.makeStale(x, 0, shelf, 0);
                for (int many : Checks.FILLINGS) {
                    Checks.refused(x, "skip of " + many + ", STALE", () -> x.skip(0, many));
                }
            }
        });
        throwsIfThereIsNoSuchWalk(25, (x, walk) -> x.skip(walk, 1));
        Checks.sentence(25, "Throws IllegalArgumentException if many is not 0 to 12", () -> {
            for (int how : new int[] {0, 1, 2}) {
                Overwalks x = walked(0, how, 12, 0);
                for (int many : new int[] {-1, 13, Integer.MIN_VALUE, Integer.MAX_VALUE}) {
                    Checks.badArgument(x, "skip of " + many, () -> x.skip(0, many));
                }
                Checks.due("skip of none", x.skip(0, 0), 0);
                Checks.due("skip of 12", x.skip(0, 12), 12);
                Checks.due("skip of 12 at the end", x.skip(0, 12), 0);
            }
        });
        throwsIfNoneWasMade(25, (x, walk) -> x.skip(walk, 1));
    }

    private static void skipsInTwoSteps(int shelf, int how, int many) {
        for (int first = 0; first <= 12; first++) {
            Overwalks x = Checks.with(shelf, Checks.upTo(many));
            x.walk(0, shelf, how);
            int gave = Math.min(first, many);
            Checks.due("skip of " + first + " of " + many, x.skip(0, first), gave);
            Checks.due("GIVEN", x.ofWalk(0, 2), gave);
            if (gave < many) {
                Checks.due("next", x.next(0), gave + 1);
                gave++;
            }
            Checks.due("skip of 12 then", x.skip(0, 12), many - gave);
            Checks.due("GIVEN then", x.ofWalk(0, 2), many);
            Checks.due("not REFUSED at the end", x.skip(0, 1), 0);
        }
    }

    private static void promise26PourRest() {
        Checks.sentence(26, "Returns how many it gave", () -> {
            for (int into : Checks.PUT_UPON) {
                onEachThatGivesAll((x, shelf, many, given) -> {
                    if (shelf != into || many <= 6) {
                        Checks.due("pourRest into " + into, x.pourRest(0, into), many - given);
                    }
                });
            }
        });
        Checks.sentence(26, "A WALK gives all that it has, and these are PUT on a SHELF", () -> {
            for (int shelf : Checks.SHELVES) {
                for (int how : Checks.howsThatGiveAll(shelf)) {
                    for (int into : Checks.PUT_UPON) {
                        for (int given = 0; given <= 4 && shelf != into; given++) {
                            poursTheRest(shelf, how, into, given);
                        }
                    }
                }
            }
            Overwalks x = Checks.with(4, 3, NOTHING, 5);
            x.walk(0, 4, 0);
            x.next(0);
            Checks.due("NOTHING and a THING", x.pourRest(0, 2), 2);
            Checks.due("CHAIN", x.text(2), "- 5");
        });
        Checks.sentence(26, "(also on its own: it is STALE then, if something came)", () -> {
            for (int shelf : new int[] {0, 1, 2, 5, 8, 9, 10}) {
                for (int how : Checks.howsThatGiveAll(shelf)) {
                    for (int given = 0; given <= 6; given++) {
                        Overwalks x = walked(shelf, how, 6, given);
                        Checks.due("on its own", x.pourRest(0, shelf), 6 - given);
                        Checks.due("what lies there", x.text(shelf),
                                textFrom(0, 6) + (given < 6 ? " " : "") + textFrom(given, 6));
                        Checks.due("STALE if something came", x.ofWalk(0, 3), given < 6 ? 1 : 0);
                        Checks.due("GIVEN", x.ofWalk(0, 2), 6);
                    }
                }
            }
            for (int shelf : new int[] {3, 4}) {
                Overwalks x = walked(shelf, 0, 6, 2);
                Checks.due("on its own", x.pourRest(0, shelf), 4);
                Checks.due("nothing came", x.ofWalk(0, 3), 0);
                Checks.due("no MORE", x.more(0), 0);
            }
        });
    }

    private static void poursTheRest(int shelf, int how, int into, int given) {
        Overwalks x = walked(shelf, how, 4, given);
        Checks.lay(x, into, 2, 3);
        boolean isOnce = into == 3 || into == 4;
        x.pourRest(0, into);
        String want = "2 3" + (given < 4 ? " " : "") + textFrom(given, 4);
        if (into == 3) {
            want = given == 0 ? "1 2 3 4" : given < 4 ? "2 3 4" : "2 3";
        } else if (isOnce) {
            want = given == 0 ? "2 3 1 4" : given < 4 ? "2 3 4" : "2 3";
        }
        Checks.due(given + " were given, SHELF " + into, x.text(into), want);
        Checks.due("GIVEN", x.ofWalk(0, 2), 4);
        Checks.due("not STALE", x.ofWalk(0, 3), 0);
        Checks.due("its SHELF stays", x.size(shelf), 4);
    }

    private static void promise26PourRestRefuses() {
        refusedIfStale(26, "REFUSED if it is STALE", (x, walk) -> x.pourRest(walk, 1));
        Checks.sentence(26, "or an ITERATOR", () -> {
            for (int shelf : Checks.SHELVES) {
                for (int into : Checks.PUT_UPON) {
                    Overwalks x = walked(shelf, 1, 3, 1);
                    Checks.refused(x, "over " + shelf + " into " + into, () -> x.pourRest(0, into));
                }
            }
        });
        Checks.sentence(26, "or into is KEYS or VALUES", () -> {
            for (int shelf : Checks.SHELVES) {
                for (int into : Checks.TABLE) {
                    for (int given = 0; given <= 3; given++) {
                        Overwalks x = walked(shelf, 0, 3, given);
                        Checks.refused(x, "over " + shelf + " into " + into, () -> x.pourRest(0, into));
                    }
                }
            }
        });
        Checks.sentence(26, "or NOTHING lies on its SHELF, and into does not TAKE it.", () -> {
            for (int shelf : Checks.TAKE_NOTHINGS) {
                for (int how : Checks.howsThatGiveAll(shelf)) {
                    for (int into : new int[] {3, 5}) {
                        Overwalks x = Checks.with(shelf, NOTHING, 1);
                        x.walk(0, shelf, how);
                        Checks.refused(x, "NOTHING ahead of it", () -> x.pourRest(0, into));
                        x.next(0);
                        Checks.refused(x, "NOTHING that it gave", () -> x.pourRest(0, into));
                        x.next(0);
                        Checks.refused(x, "behind all", () -> x.pourRest(0, into));
                        x.take(shelf, NOTHING);
                        x.walk(0, shelf, how);
                        Checks.due("none there", x.pourRest(0, into), 1);
                    }
                    Overwalks x = Checks.with(shelf, NOTHING, 1);
                    x.walk(0, shelf, how);
                    int taker = shelf == 1 ? 2 : 1;
                    Checks.due("where it is taken", x.pourRest(0, taker), 2);
                }
            }
        });
    }

    private static void promise26PourRestThrows() {
        Checks.sentence(26, "Throws IndexOutOfBoundsException if there is no such WALK or SHELF", () -> {
            Overwalks x = walked(0, 0, 2, 0);
            for (int walk : Checks.NO_WALKS) {
                Checks.noPlace(x, "WALK " + walk, () -> x.pourRest(walk, 1));
            }
            for (int shelf : Checks.NO_SHELVES) {
                Checks.noPlace(x, "SHELF " + shelf, () -> x.pourRest(0, shelf));
            }
        });
        throwsIfNoneWasMade(26, (x, walk) -> x.pourRest(walk, 1));
        Checks.sentence(26, "or its SHELF and into have more than 12 together (the same one counts twice)", () -> {
            for (int shelf : Checks.SHELVES) {
                for (int into : Checks.PUT_UPON) {
                    for (int many : Checks.FILLINGS) {
                        for (int given : new int[] {0, many / 2, many}) {
                            poursTheRestUpToTwelve(shelf, into, many, given, 12 - many);
                            poursTheRestUpToTwelve(shelf, into, many, given, Math.min(12, 13 - many));
                        }
                    }
                }
                Overwalks x = walked(shelf, 1, 7, 7);
                Checks.badState(x, "an ITERATOR, on its own", () -> x.pourRest(0, shelf));
            }
        });
    }

    /** All that lies on its SHELF counts, also what it gave. */
    private static void poursTheRestUpToTwelve(int shelf, int into, int many, int given, int lie) {
        Overwalks x = Checks.with(shelf, Checks.upTo(many));
        if (shelf != into) {
            Checks.lay(x, into, Checks.upTo(lie));
        }
        x.walk(0, shelf, 0);
        x.skip(0, given);
        int together = x.size(shelf) + x.size(into);
        String call = many + " over " + shelf + ", " + x.size(into) + " on " + into;
        if (together > 12) {
            Checks.badState(x, call, () -> x.pourRest(0, into));
        } else {
            Checks.due(call, x.pourRest(0, into), many - given);
        }
    }

    private static void promise27Zip() {
        Checks.sentence(27, "Two WALKS give one each, the first one first, as long as both have MORE.", () -> {
            for (int many : Checks.FILLINGS) {
                for (int others : Checks.FILLINGS) {
                    for (int how : new int[] {0, 1, 2}) {
                        Overwalks x = twoWalks(many, others, how, (how + 1) % 2);
                        int both = Math.min(many, others);
                        x.zip(3, 1);
                        Checks.due("GIVEN", x.ofWalk(3, 2), both);
                        Checks.due("GIVEN of the other", x.ofWalk(1, 2), both);
                        Checks.due("MORE", x.more(3), many > both ? 1 : 0);
                        Checks.due("MORE of the other", x.more(1), others > both ? 1 : 0);
                    }
                }
            }
        });
        Checks.sentence(27, "Returns the pairs, as \"a/b\", with a blank between two", () -> {
            for (int many : Checks.FILLINGS) {
                for (int others : Checks.FILLINGS) {
                    Overwalks x = twoWalks(many, others, many % 3, others % 2);
                    StringBuilder want = new StringBuilder();
                    for (int thing = 1; thing <= Math.min(many, others); thing++) {
                        want.append(thing == 1 ? "" : " ").append(thing).append('/').append(20 + thing);
                    }
                    Checks.due("zip of " + many + " and " + others, x.zip(3, 1), want.toString());
                    Checks.due("again", x.zip(3, 1), "");
                }
            }
            Overwalks x = Checks.with(0, NOTHING, 5);
            Checks.lay(x, 4, 9, NOTHING, 3);
            x.walk(0, 0, 0);
            x.walk(1, 4, 1);
            Checks.due("NOTHINGS", x.zip(0, 1), "-/9 5/-");
            Checks.due("the other one has MORE", x.next(1), 3);
            x.walk(2, 4, 0);
            Checks.due("of none", x.zip(0, 2), "");
            Checks.due("nothing was given", x.ofWalk(2, 2), 0);
            x.walk(0, 4, 0);
            x.walk(1, 4, 1);
            x.next(1);
            Checks.due("over one SHELF", x.zip(1, 0), "-/9 3/-");
            Checks.due("what the ITERATOR gave last goes", x.takeOut(1), 2);
            Checks.due("KEPT", x.text(4), "9 -");
        });
        Checks.sentence(27, "\"!\" (REFUSED) if one of both is STALE.", () -> {
            for (int shelf : Checks.SHELVES) {
                for (int how : Checks.howsOver(shelf)) {
                    Overwalks x = Checks.with(shelf, 1, 2, 3);
                    int fresh = shelf == 1 ? 2 : 1;
                    Checks.lay(x, fresh, 1, 2);
                    Checks.makeStale(x, 0, shelf, how);
                    x.walk(1, fresh, 1);
                    x.walk(2, fresh, 0);
                    x.skip(2, 2);
                    Checks.refused(x, "the first one", () -> x.zip(0, 1));
                    Checks.refused(x, "the other one", () -> x.zip(1, 0));
                    Checks.refused(x, "the other one has no MORE", () -> x.zip(0, 2));
                    Checks.refused(x, "the first one has no MORE", () -> x.zip(2, 0));
                    Checks.makeStale(x, 1, fresh, 0);
                    Checks.refused(x, "both", () -> x.zip(0, 1));
                }
            }
        });
    }

    /** WALK 3 over 1 .. many on the VECTOR, WALK 1 over 21 .. 20 + others on the QUEUE. */
    private static Overwalks twoWalks(int many, int others, int how, int otherHow) {
        Overwalks x = Checks.with(0, Checks.upTo(many));
        for (int thing = 1; thing <= others; thing++) {
            x.put(5, 20 + thing);
        }
        x.walk(3, 0, how);
        x.walk(1, 5, otherHow);
        return x;
    }

    private static void promise27ZipThrows() {
        Checks.sentence(27, "Throws IndexOutOfBoundsException if there is no such WALK (both)", () -> {
            Overwalks x = walked(0, 0, 2, 0);
            for (int walk : Checks.NO_WALKS) {
                Checks.noPlace(x, "the first " + walk, () -> x.zip(walk, 0));
                Checks.noPlace(x, "the other " + walk, () -> x.zip(0, walk));
                Checks.noPlace(x, "both " + walk, () -> x.zip(walk, walk));
            }
        });
        Checks.sentence(27, "Throws IllegalArgumentException if both are the same", () -> {
            for (int walk : Checks.WALKS) {
                Overwalks x = Checks.with(0, 1, 2);
                Checks.badArgument(x, "not made", () -> x.zip(walk, walk));
                x.walk(walk, 0, 0);
                Checks.badArgument(x, "made", () -> x.zip(walk, walk));
                x.put(0, 3);
                Checks.badArgument(x, "STALE", () -> x.zip(walk, walk));
            }
        });
        Checks.sentence(27, "Throws IllegalStateException if one of both was not made", () -> {
            for (int walk : Checks.WALKS) {
                int other = (walk + 1) % 6;
                Overwalks x = Checks.with(0, 1, 2);
                Checks.badState(x, "neither was made", () -> x.zip(walk, other));
                x.walk(walk, 0, 0);
                Checks.badState(x, "the other one", () -> x.zip(walk, other));
                Checks.badState(x, "the first one", () -> x.zip(other, walk));
                x.walk(other, 0, 0);
                Checks.due("both were made", x.zip(walk, other), "1/1 2/2");
                x.drop(walk);
                Checks.badState(x, "the first one is gone", () -> x.zip(walk, other));
            }
        });
    }
}
