import java.util.function.Consumer;
import java.util.function.Supplier;

/** What the document says ahead of its promises of SHIFTED and TURNED SHELVES and of WALKS. */
public final class WalkDescriptionSentencesTest {
    private static final int NONE = Checks.NONE;
    private static final int NOTHING = Checks.NOTHING;
    private static final int REFUSED = Checks.REFUSED;

    /** No call here uses this WALK for itself: it sees whether its SHELF was SHIFTED or TURNED. */
    private static final int OBSERVER = 5;

    private static final int SHIFTS = 6;
    private static final int TURNS = 6;

    public static void main(String[] args) {
        shiftedIfSomethingComes();
        shiftedIfSomethingGoes();
        notShiftedIfNothingIsOtherwise();
        notShiftedIfThingsStay();
        tableIsShifted();
        listsAreShifted();
        turned();
        walks();
        stale();
        given();
        nextOne();
        takingOut();
        Checks.end();
    }

    private static void sentence(String words, Runnable test) {
        Checks.sentence("Description", words, test);
    }

    /** 1 2 1 on rows and the QUEUE, 1 2 3 on RISING, 1 - 2 on KEPT, 1/5 2/6 3/5 in the TABLE. */
    private static Overwalks everyShelf() {
        Overwalks x = new Overwalks();
        for (int row : Checks.ROWS) {
            x.putAll(row, 1, 2, 1, NONE);
        }
        x.putAll(3, 1, 2, 3, NONE);
        x.putAll(4, 1, NOTHING, 2, NONE);
        x.putAll(5, 1, 2, 1, NONE);
        x.pair(1, 5);
        x.pair(2, 6);
        x.pair(3, 5);
        return x;
    }

    /** A WALK that was made ahead of the call is STALE behind it over just these SHELVES. */
    private static void shiftsJust(String call, Supplier<Overwalks> made, Consumer<Overwalks> what,
            int... shifted) {
        for (int shelf : Checks.SHELVES) {
            for (int how : Checks.howsOver(shelf)) {
                Overwalks x = made.get();
                x.walk(OBSERVER, shelf, how);
                what.accept(x);
                Checks.due(call + ": STALE is HOW " + how + " over " + shelf,
                        x.ofWalk(OBSERVER, 3), Checks.isAmong(shifted, shelf) ? 1 : 0);
            }
        }
    }

    private static void shiftsJust(String call, Consumer<Overwalks> what, int... shifted) {
        shiftsJust(call, WalkDescriptionSentencesTest::everyShelf, what, shifted);
    }

    private static void shiftsNone(String call, Consumer<Overwalks> what) {
        shiftsJust(call, what);
    }

    /** What an ITERATOR gave ahead of the call cannot be taken out behind it on just these ROWS. */
    private static void turnsJust(String call, Supplier<Overwalks> made, Consumer<Overwalks> what,
            int... turned) {
        for (int row : Checks.ROWS) {
            Overwalks x = made.get();
            x.walk(OBSERVER, row, 1);
            x.next(OBSERVER);
            int lie = x.size(row);
            what.accept(x);
            boolean isTurned = Checks.isAmong(turned, row);
            Checks.due(call + ": takeOut over " + row, x.takeOut(OBSERVER), isTurned ? REFUSED : lie - 1);
            Checks.due(call + ": size(" + row + ")", x.size(row), isTurned ? lie : lie - 1);
        }
    }

    private static void turnsJust(String call, Consumer<Overwalks> what, int... turned) {
        turnsJust(call, WalkDescriptionSentencesTest::everyShelf, what, turned);
    }

    // ---- SHIFTED

    private static void shiftedIfSomethingComes() {
        sentence("SHIFTED is a SHELF, if something comes .. there", () -> {
            for (int shelf : Checks.PUT_UPON) {
                shiftsJust("put on " + shelf, x -> x.put(shelf, 9), shelf);
                shiftsJust("putAll of 1 on " + shelf, x -> x.putAll(shelf, 9, NONE, 8, 7), shelf);
                shiftsJust("putAll of 4 on " + shelf, x -> x.putAll(shelf, 9, 8, 7, 6), shelf);
                shiftsJust("putAll, the last alone comes, on " + shelf, x -> x.putAll(shelf, 1, 1, 2, 9), shelf);
                shiftsJust("pour of VALUES on " + shelf, x -> x.pour(7, shelf), shelf);
                shiftsJust("pourRest of VALUES on " + shelf, x -> {
                    x.walk(0, 7, 0);
                    x.pourRest(0, shelf);
                }, shelf);
                shiftsJust("put on the empty SHELF " + shelf, Overwalks::new, x -> x.put(shelf, 0), shelf);
                shiftsJust("the twelfth on " + shelf, () -> Checks.with(shelf, Checks.upTo(11)),
                        x -> x.put(shelf, 50), shelf);
            }
            for (int row : Checks.ROWS) {
                for (int place = 0; place <= 3; place++) {
                    int ahead = place;
                    shiftsJust("insert at " + place, x -> x.insert(row, ahead, 1), row);
                }
                shiftsJust("copies once", x -> x.copies(row, 1, 1), row);
                shiftsJust("copies nine times", x -> x.copies(row, NOTHING, 9), row);
                shiftsJust("pour on itself", x -> x.pour(row, row), row);
            }
        });
    }

    private static void shiftedIfSomethingGoes() {
        sentence("SHIFTED is a SHELF, if something .. goes there", () -> {
            for (int shelf : Checks.PUT_UPON) {
                shiftsJust("take of " + shelf, x -> x.take(shelf, 1), shelf);
                shiftsJust("clear of " + shelf, x -> x.clear(shelf), shelf);
                shiftsJust("takeOut of " + shelf, x -> {
                    x.walk(0, shelf, 1);
                    x.next(0);
                    x.takeOut(0);
                }, shelf);
                shiftsJust("take of the only one on " + shelf, () -> Checks.with(shelf, 1),
                        x -> x.take(shelf, 1), shelf);
            }
            for (int row : Checks.ROWS) {
                for (int place = 0; place <= 2; place++) {
                    int gone = place;
                    shiftsJust("remove at " + place, x -> x.remove(row, gone), row);
                }
            }
        });
    }

    private static void notShiftedIfNothingIsOtherwise() {
        sentence("(not if nothing is otherwise", () -> {
            for (int shelf : Checks.PUT_UPON) {
                shiftsNone("putAll of none on " + shelf, x -> x.putAll(shelf, NONE, 9, 9, 9));
                shiftsNone("take of what is not there, " + shelf, x -> x.take(shelf, 50));
                shiftsNone("pourRest at the end on " + shelf, x -> {
                    x.walk(0, 3, 0);
                    x.skip(0, 12);
                    x.pourRest(0, shelf);
                });
                shiftsJust("pour of an empty SHELF on " + shelf, Overwalks::new, x -> x.pour(7, shelf));
            }
            shiftsJust("clear of empty SHELVES", Overwalks::new, x -> {
                for (int shelf : Checks.SHELVES) {
                    x.clear(shelf);
                }
            });
            shiftsNone("put of what is there on RISING", x -> x.put(3, 2));
            shiftsNone("putAll of what is there on RISING", x -> x.putAll(3, 3, 2, 1, 3));
            shiftsNone("put of what is there on KEPT", x -> x.put(4, 1));
            shiftsNone("put of NOTHING that is there on KEPT", x -> x.put(4, NOTHING));
            shiftsNone("putAll of what is there on KEPT", x -> x.putAll(4, 2, NOTHING, 1, 2));
            shiftsNone("pour of the QUEUE on RISING", x -> x.pour(5, 3));
            shiftsNone("pour of RISING on itself", x -> x.pour(3, 3));
            shiftsNone("pour of KEPT on itself", x -> x.pour(4, 4));
            shiftsNone("pourRest of the QUEUE on KEPT", x -> {
                x.walk(0, 5, 0);
                x.pourRest(0, 4);
            });
            shiftsNone("pourRest of KEPT on itself", x -> {
                x.walk(0, 4, 0);
                x.pourRest(0, 4);
            });
            for (int row : Checks.ROWS) {
                shiftsNone("copies of none", x -> x.copies(row, 1, 0));
            }
            for (int shelf : Checks.TABLE) {
                shiftsNone("take of what is not there, " + shelf, x -> x.take(shelf, 50));
                shiftsNone("put, refused", x -> x.put(shelf, 50));
                shiftsNone("takes, refused", x -> x.take(shelf, NOTHING));
            }
            shiftsNone("take, refused", x -> x.take(5, NOTHING));
            shiftsNone("WALKS go on, and all is asked", WalkDescriptionSentencesTest::walkAndAsk);
        });
    }

    private static void walkAndAsk(Overwalks x) {
        for (int shelf : Checks.SHELVES) {
            x.walk(0, shelf, 0);
            x.walk(1, shelf, 1);
            x.zip(0, 1);
            x.walk(0, shelf, 0);
            x.next(0);
            x.more(0);
            x.skip(0, 1);
            x.rest(0);
            x.drop(0);
            x.text(shelf);
            x.list(shelf);
            x.has(shelf, 1);
            x.often(shelf, 1);
            x.end(shelf, true);
            x.code(shelf);
            x.first(shelf, true);
            x.disjoint(shelf, 0);
            x.areAlike(shelf, 0);
        }
        x.knock();
        x.isSound();
        x.digest();
    }

    private static void notShiftedIfThingsStay() {
        sentence("nor if a THING becomes another one in its PLACE", () -> {
            for (int row : Checks.ROWS) {
                shiftsNone("change", x -> x.change(row, 0, 9));
                shiftsNone("change to NOTHING", x -> x.change(row, 2, NOTHING));
                shiftsNone("fill", x -> x.fill(row, 9));
                shiftsNone("replace", x -> x.replace(row, 1, 9));
            }
            shiftsNone("pair of a KEY that is there", x -> x.pair(2, 9));
        });
        sentence("or THINGS change PLACES", () -> {
            for (int row : Checks.ROWS) {
                shiftsNone("turn", x -> x.turn(row));
                shiftsNone("rotate", x -> x.rotate(row, 1));
                shiftsNone("rotate back", x -> x.rotate(row, -20));
                shiftsNone("swap", x -> x.swap(row, 0, 1));
            }
        });
    }

    private static void tableIsShifted() {
        sentence("of the TABLE both SHELVES, if a KEY comes or goes", () -> {
            shiftsJust("pair of the first KEY", Overwalks::new, x -> x.pair(0, 0), 6, 7);
            shiftsJust("pair of a KEY behind all", x -> x.pair(9, 9), 6, 7);
            shiftsJust("pair of a KEY ahead of all", x -> x.pair(0, 5), 6, 7);
            shiftsJust("pair of the twelfth KEY", () -> Checks.with(6, Checks.upTo(11)),
                    x -> x.pair(50, 1), 6, 7);
            shiftsJust("take of KEYS", x -> x.take(6, 2), 6, 7);
            shiftsJust("take of VALUES", x -> x.take(7, 5), 6, 7);
            shiftsJust("clear of KEYS", x -> x.clear(6), 6, 7);
            shiftsJust("clear of VALUES", x -> x.clear(7), 6, 7);
            shiftsJust("takeOut of KEYS", x -> {
                x.walk(0, 6, 1);
                x.skip(0, 2);
                x.takeOut(0);
            }, 6, 7);
            shiftsNone("pair of each KEY that is there", x -> {
                x.pair(1, 5);
                x.pair(2, 0);
                x.pair(3, 99);
            });
        });
    }

    private static void listsAreShifted() {
        sentence("a LIST that is made anew always", () -> {
            for (int list : Checks.LISTS) {
                for (int shelf : Checks.SHELVES) {
                    shiftsJust("keep of " + shelf, x -> x.keep(list, shelf), list);
                    shiftsJust("keep, all are empty", Overwalks::new, x -> x.keep(list, shelf), list);
                }
                for (int shelf = 0; shelf <= 7; shelf++) {
                    for (int how : Checks.howsThatGiveAll(shelf)) {
                        keepRestShifts(list, shelf, how);
                    }
                }
            }
        });
    }

    private static void keepRestShifts(int list, int shelf, int how) {
        Consumer<Overwalks> keepRest = x -> {
            x.walk(0, shelf, how);
            x.keepRest(0, list);
        };
        shiftsJust("keepRest of " + shelf, keepRest, list);
        shiftsJust("keepRest of none on an empty LIST", Overwalks::new, keepRest, list);
        shiftsJust("keepRest, the same again", () -> {
            Overwalks x = everyShelf();
            x.keep(list, shelf);
            return x;
        }, keepRest, list);
        shiftsJust("keepRest of none", x -> {
            x.walk(0, shelf, how);
            x.skip(0, 12);
            x.keepRest(0, list);
        }, list);
    }

    // ---- TURNED

    private static void turned() {
        sentence("TURNED is one of the ROWS by each call of change(), turn(), rotate(), swap(),"
                + " fill() and replace() that throws nothing", () -> {
            for (int row : Checks.ROWS) {
                turnsJust("change of " + row, x -> x.change(row, 2, 9), row);
                turnsJust("turn of " + row, x -> x.turn(row), row);
                turnsJust("rotate of " + row, x -> x.rotate(row, 1), row);
                turnsJust("swap of " + row, x -> x.swap(row, 1, 2), row);
                turnsJust("fill of " + row, x -> x.fill(row, 9), row);
                turnsJust("replace of " + row, x -> x.replace(row, 2, 9), row);
                turnsJust("all that throws, of " + row, x -> throwByEachTurning(x, row));
            }
            turnsJust("pair of a KEY that is there", x -> x.pair(1, 9));
            turnsJust("WALKS go on, and all is asked", WalkDescriptionSentencesTest::walkAndAsk);
            turnsJust("nothing comes and nothing goes", x -> {
                for (int row : Checks.ROWS) {
                    x.copies(row, 1, 0);
                    x.take(row, 50);
                    x.putAll(row, NONE, NONE, NONE, NONE);
                    x.pour(row, 6);
                }
            });
        });
        sentence("TURNED .. (also if all stays)", () -> {
            for (int row : Checks.ROWS) {
                turnsJust("change to what it is", x -> x.change(row, 0, 1), row);
                turnsJust("turn of what reads alike", x -> x.turn(row), row);
                turnsJust("rotate by none", x -> x.rotate(row, 0), row);
                turnsJust("rotate all around", x -> x.rotate(row, 3), row);
                turnsJust("rotate back all around", x -> x.rotate(row, -18), row);
                turnsJust("swap of one PLACE with itself", x -> x.swap(row, 1, 1), row);
                turnsJust("replace of what is not there", x -> x.replace(row, 50, 9), row);
                turnsJust("replace by the same", x -> x.replace(row, 1, 1), row);
                Supplier<Overwalks> one = WalkDescriptionSentencesTest::withOneOnEachRow;
                turnsJust("turn of one", one, x -> x.turn(row), row);
                turnsJust("rotate of one", one, x -> x.rotate(row, 1), row);
                turnsJust("swap of one", one, x -> x.swap(row, 0, 0), row);
                turnsJust("fill with the same", one, x -> x.fill(row, 4), row);
                turnsJust("change of one to the same", one, x -> x.change(row, 0, 4), row);
                turnsJust("replace of one by the same", one, x -> x.replace(row, 4, 4), row);
            }
        });
    }

    private static Overwalks withOneOnEachRow() {
        Overwalks x = new Overwalks();
        for (int row : Checks.ROWS) {
            x.put(row, 4);
        }
        return x;
    }

    private static void throwByEachTurning(Overwalks x, int row) {
        Checks.noPlace(x, "change, no PLACE", () -> x.change(row, 3, 9));
        Checks.badArgument(x, "change, no THING", () -> x.change(row, 0, 101));
        Checks.badArgument(x, "rotate", () -> x.rotate(row, 21));
        Checks.badArgument(x, "rotate back", () -> x.rotate(row, -21));
        Checks.noPlace(x, "swap, no PLACE", () -> x.swap(row, 3, 0));
        Checks.noPlace(x, "swap, no other PLACE", () -> x.swap(row, 0, 3));
        Checks.badArgument(x, "fill", () -> x.fill(row, -1));
        Checks.badArgument(x, "replace", () -> x.replace(row, -1, 1));
        Checks.badArgument(x, "replace by no THING", () -> x.replace(row, 1, 101));
    }

    // ---- WALKS

    private static void walks() {
        sentence("WALKS 0 to 5, none at first.", () -> {
            Overwalks x = new Overwalks();
            Checks.due("house(2)", x.house(2), 0);
            for (int walk : Checks.WALKS) {
                Checks.due("ofWalk(" + walk + ", 0)", x.ofWalk(walk, 0), NONE);
                Checks.due("drop(" + walk + ")", x.drop(walk), 0);
                Checks.badState(x, "next(" + walk + ")", () -> x.next(walk));
            }
            for (int walk : Checks.WALKS) {
                x.walk(walk, walk, walk % 2);
                Checks.due("ofWalk(" + walk + ", 0) then", x.ofWalk(walk, 0), walk);
                Checks.due("house(2) then", x.house(2), walk + 1);
            }
            for (int walk : Checks.NO_WALKS) {
                Checks.noPlace(x, "walk(" + walk + ", 0, 0)", () -> x.walk(walk, 0, 0));
                Checks.noPlace(x, "next(" + walk + ")", () -> x.next(walk));
                Checks.noPlace(x, "drop(" + walk + ")", () -> x.drop(walk));
            }
        });
        sentence("One is made over a SHELF, by a HOW: 0 ENUMERATION (Collections.enumeration),"
                + " 1 ITERATOR, 2 ELEMENTS (of the VECTOR alone).", () -> {
            for (int shelf : Checks.SHELVES) {
                for (int how : Checks.howsOver(shelf)) {
                    Overwalks x = Checks.with(shelf, 1, 2);
                    Checks.due("walk", x.walk(0, shelf, how), 2);
                    Checks.due("its HOW", x.ofWalk(0, 1), how);
                    Checks.due("next", x.next(0), 1);
                    Checks.due("just an ITERATOR gives not all", x.rest(0), how == 1 ? "!" : "2");
                }
                if (shelf != 0) {
                    Overwalks x = Checks.with(shelf, 1, 2);
                    Checks.badArgument(x, "ELEMENTS of " + shelf, () -> x.walk(0, shelf, 2));
                }
            }
            Overwalks x = new Overwalks();
            for (int how : new int[] {-1, 3, Integer.MIN_VALUE, Integer.MAX_VALUE}) {
                Checks.badArgument(x, "HOW " + how, () -> x.walk(0, 0, how));
            }
        });
    }

    private static void stale() {
        sentence("It is STALE, if its SHELF was SHIFTED since by anything but itself", () -> {
            for (int shelf : Checks.SHELVES) {
                for (int how : Checks.howsOver(shelf)) {
                    for (int many : new int[] {0, 1, 12}) {
                        isStaleForGood(shelf, how, many);
                    }
                }
                anotherIteratorMakesStale(shelf);
                for (int first = 0; first < SHIFTS; first++) {
                    for (int second = 0; second < SHIFTS; second++) {
                        isStaleBehindBoth(shelf, first, second);
                    }
                }
            }
            Overwalks x = Checks.with(0, 1, 2);
            x.walk(0, 0, 2);
            x.next(0);
            x.pourRest(0, 0);
            Checks.due("STALE by what it poured on its own SHELF", x.ofWalk(0, 3), 1);
        });
        sentence("(as it TAKES OUT)", () -> {
            for (int shelf : Checks.SHELVES) {
                if (shelf != 7) {
                    takesOutAllAndIsNotStale(shelf);
                }
            }
            Overwalks x = Checks.with(6, 1, 2);
            x.walk(0, 6, 1);
            x.walk(1, 7, 1);
            x.next(0);
            x.takeOut(0);
            Checks.due("over KEYS not STALE", x.ofWalk(0, 3), 0);
            Checks.due("but over VALUES", x.ofWalk(1, 3), 1);
        });
    }

    /** What comes and goes again leaves the WALK STALE, until it is made anew. */
    private static void isStaleForGood(int shelf, int how, int many) {
        Overwalks x = Checks.with(shelf, Checks.upTo(many));
        String text = x.text(shelf);
        x.walk(0, shelf, how);
        Checks.due("not STALE at first", x.ofWalk(0, 3), 0);
        Checks.shift(x, shelf);
        Checks.due("STALE then", x.ofWalk(0, 3), 1);
        x.clear(shelf);
        Checks.lay(x, shelf, Checks.upTo(many));
        Checks.due("the same lies there as before", x.text(shelf), text);
        Checks.due("STALE as before", x.ofWalk(0, 3), 1);
        Checks.refused(x, "next", () -> x.next(0));
        x.walk(0, shelf, how);
        Checks.due("not STALE when made anew", x.ofWalk(0, 3), 0);
    }

    /** One of the calls by which something comes or goes, as far as this SHELF has it. */
    private static void shiftBy(Overwalks x, int shelf, int which) {
        if (which == 0) {
            Checks.lay(x, shelf, 60);
        } else if (which == 1) {
            x.take(shelf, x.first(shelf, true));
        } else if (which == 2) {
            x.clear(shelf);
        } else if (which == 3 && shelf != 7) {
            x.walk(1, shelf, 1);
            x.next(1);
            x.takeOut(1);
        } else if (which == 4 && shelf >= 8) {
            x.keep(shelf, 3);
        } else if (shelf >= 8) {
            x.walk(1, 3, 0);
            x.keepRest(1, shelf);
        } else {
            Checks.shift(x, shelf);
        }
    }

    /** What one call SHIFTED another one does not undo. */
    private static void isStaleBehindBoth(int shelf, int first, int second) {
        Overwalks x = Checks.with(shelf, 1, 2, 3);
        x.put(3, 70);
        x.walk(0, shelf, 0);
        shiftBy(x, shelf, first);
        Checks.due("STALE behind " + first, x.ofWalk(0, 3), 1);
        if (x.isEmpty(shelf)) {
            Checks.lay(x, shelf, 80);
        }
        shiftBy(x, shelf, second);
        Checks.due("STALE behind " + first + " and " + second + " of " + shelf, x.ofWalk(0, 3), 1);
    }

    private static void anotherIteratorMakesStale(int shelf) {
        if (shelf == 7) {
            return;
        }
        Overwalks x = Checks.with(shelf, 1, 2, 3);
        x.walk(0, shelf, 1);
        x.walk(1, shelf, 1);
        x.next(0);
        x.next(1);
        x.takeOut(0);
        Checks.due("the one that TAKES OUT", x.ofWalk(0, 3), 0);
        Checks.due("the other one", x.ofWalk(1, 3), 1);
        Checks.refused(x, "takeOut of the other one", () -> x.takeOut(1));
        Checks.due("the first one goes on", x.next(0), 2);
    }

    private static void takesOutAllAndIsNotStale(int shelf) {
        Overwalks x = Checks.with(shelf, Checks.upTo(12));
        x.walk(0, shelf, 1);
        for (int thing = 1; thing <= 12; thing++) {
            Checks.due("next", x.next(0), thing);
            Checks.due("takeOut", x.takeOut(0), 12 - thing);
            Checks.due("not STALE over " + shelf, x.ofWalk(0, 3), 0);
        }
        Checks.due("no MORE", x.more(0), 0);
        Checks.shift(x, shelf);
        Checks.due("STALE by what comes then", x.ofWalk(0, 3), 1);
    }

    private static void given() {
        sentence("GIVEN: how many it gave (also what it took out then).", () -> {
            for (int many : Checks.FILLINGS) {
                Overwalks x = Checks.with(1, Checks.upTo(many));
                x.walk(0, 1, 1);
                for (int given = 1; given <= many; given++) {
                    x.next(0);
                    Checks.due("GIVEN", x.ofWalk(0, 2), given);
                    x.takeOut(0);
                    Checks.due("GIVEN, with what it took out", x.ofWalk(0, 2), given);
                }
                x.next(0);
                Checks.due("GIVEN, without what was refused", x.ofWalk(0, 2), many);
            }
            Overwalks x = Checks.with(0, 1, 2, 3, 4, 5);
            x.walk(0, 0, 0);
            x.walk(1, 0, 2);
            x.skip(0, 2);
            Checks.due("GIVEN behind skip", x.ofWalk(0, 2), 2);
            x.zip(0, 1);
            Checks.due("GIVEN behind zip", x.ofWalk(0, 2), 5);
            Checks.due("GIVEN of the other", x.ofWalk(1, 2), 3);
            x.rest(1);
            Checks.due("GIVEN behind rest", x.ofWalk(1, 2), 5);
            x.walk(2, 0, 0);
            x.keepRest(2, 8);
            Checks.due("GIVEN behind keepRest", x.ofWalk(2, 2), 5);
            x.walk(3, 0, 0);
            x.pourRest(3, 0);
            Checks.due("GIVEN behind pourRest, STALE", x.ofWalk(3, 2), 5);
            x.skip(3, 1);
            Checks.due("GIVEN of STALE stays", x.ofWalk(3, 2), 5);
        });
    }

    private static void nextOne() {
        sentence("It gives the THINGS in SEQUENCE, as they stand at the time", () -> {
            for (int row : Checks.ROWS) {
                for (int how : Checks.howsOver(row)) {
                    givesWhatStandsAtTheTime(row, how);
                }
            }
            for (int how : new int[] {0, 1}) {
                Overwalks x = everyShelf();
                x.walk(0, 7, how);
                Checks.due("VALUES: the first", x.next(0), 5);
                x.pair(2, 50);
                x.pair(3, 60);
                Checks.due("VALUES: the next, that the KEY got since", x.next(0), 50);
                Checks.due("VALUES: the last", x.next(0), 60);
            }
        });
        sentence("the next one is that which has as many ahead of it as were GIVEN,"
                + " less those that it took out; it has MORE, if there is such a one.", () -> {
            for (int shelf : Checks.SHELVES) {
                for (int many : Checks.FILLINGS) {
                    for (int how : Checks.howsOver(shelf)) {
                        givesOneAfterTheOther(shelf, many, how);
                    }
                    if (shelf != 7) {
                        takesOutEverySecond(shelf, many);
                    }
                }
            }
        });
    }

    private static void givesWhatStandsAtTheTime(int row, int how) {
        Overwalks x = Checks.with(row, 1, 2, 3, 4, 5, 6);
        x.walk(0, row, how);
        Checks.due("the first", x.next(0), 1);
        x.turn(row);
        Checks.due("behind turn, 6 5 4 3 2 1", x.next(0), 5);
        x.rotate(row, 2);
        Checks.due("behind rotate, 2 1 6 5 4 3", x.next(0), 6);
        x.swap(row, 0, 3);
        Checks.due("behind swap, 5 1 6 2 4 3", x.next(0), 2);
        x.change(row, 4, NOTHING);
        Checks.due("behind change", x.next(0), NOTHING);
        x.replace(row, 3, 30);
        Checks.due("behind replace", x.next(0), 30);
        x.fill(row, 7);
        Checks.due("behind fill no MORE", x.more(0), 0);
        Checks.due("not STALE", x.ofWalk(0, 3), 0);
    }

    private static void givesOneAfterTheOther(int shelf, int many, int how) {
        Overwalks x = Checks.with(shelf, Checks.upTo(many));
        x.walk(0, shelf, how);
        for (int thing = 1; thing <= many; thing++) {
            Checks.due("MORE", x.more(0), 1);
            Checks.due("next", x.next(0), thing);
        }
        Checks.due("MORE behind all " + many, x.more(0), 0);
        Checks.refused(x, "next behind all", () -> x.next(0));
    }

    private static void takesOutEverySecond(int shelf, int many) {
        Overwalks x = Checks.with(shelf, Checks.upTo(many));
        x.walk(0, shelf, 1);
        for (int thing = 1; thing <= many; thing++) {
            Checks.due("MORE", x.more(0), 1);
            Checks.due("next", x.next(0), thing);
            if (thing % 2 == 0) {
                Checks.due("takeOut", x.takeOut(0), many - thing / 2);
            }
        }
        Checks.due("MORE behind all " + many, x.more(0), 0);
        Checks.due("every second stays", x.size(shelf), (many + 1) / 2);
    }

    // ---- to TAKE OUT

    private static void takingOut() {
        sentence("To TAKE OUT: what it gave last goes from its SHELF", () -> {
            for (int row : new int[] {0, 1, 2, 5, 8, 9, 10}) {
                Overwalks x = Checks.with(row, 1, 2, 1, 2, 1);
                x.walk(0, row, 1);
                x.skip(0, 3);
                Checks.due("takeOut", x.takeOut(0), 4);
                Checks.due("not one that is like it", x.text(row), "1 2 2 1");
                x.skip(0, 12);
                Checks.due("takeOut of the last", x.takeOut(0), 3);
                Checks.due("the last went", x.text(row), "1 2 2");
            }
            Overwalks x = Checks.with(4, 1, NOTHING, 3);
            x.walk(0, 4, 1);
            x.skip(0, 2);
            Checks.due("takeOut of a NOTHING", x.takeOut(0), 2);
            Checks.due("KEPT", x.text(4), "1 3");
            x = Checks.with(0, 1, 2, 3);
            x.walk(0, 0, 1);
            x.skip(0, 12);
            Checks.due("more behind all", x.more(0), 0);
            x.next(0);
            x.skip(0, 3);
            Checks.due("nothing given since: the last one goes", x.takeOut(0), 2);
            Checks.due("VECTOR", x.text(0), "1 2");
        });
        sentence("(of KEYS with its VALUE)", () -> {
            for (int gone = 1; gone <= 3; gone++) {
                Overwalks x = everyShelf();
                x.walk(0, 6, 1);
                x.skip(0, gone);
                Checks.due("takeOut", x.takeOut(0), 2);
                Checks.due("KEYS", x.text(6), gone == 1 ? "2 3" : gone == 2 ? "1 3" : "1 2");
                Checks.due("VALUES", x.text(7), gone == 1 ? "6 5" : gone == 2 ? "5 5" : "5 6");
            }
        });
        sentence("just with an ITERATOR, not over VALUES", () -> {
            for (int shelf : Checks.SHELVES) {
                for (int how : Checks.howsOver(shelf)) {
                    Overwalks x = Checks.with(shelf, 1, 2);
                    x.walk(0, shelf, how);
                    x.next(0);
                    if (how == 1 && shelf != 7) {
                        Checks.due("takeOut over " + shelf, x.takeOut(0), 1);
                    } else {
                        Checks.refused(x, "takeOut by " + how + " over " + shelf, () -> x.takeOut(0));
                    }
                }
            }
        });
        sentence("once for each that it gave", () -> {
            for (int shelf : Checks.SHELVES) {
                if (shelf != 7) {
                    takesOutOnceForEach(shelf);
                }
            }
        });
        sentence("and not if its SHELF was TURNED since it gave that.", () -> {
            for (int row : Checks.ROWS) {
                takesOutNoneThatWasTurned(row);
                for (int first = 0; first < TURNS; first++) {
                    for (int second = 0; second < TURNS; second++) {
                        takesOutNoneBehindBoth(row, first, second);
                    }
                }
            }
        });
    }

    private static void turnBy(Overwalks x, int row, int which) {
        if (which == 0) {
            x.change(row, 0, 9);
        } else if (which == 1) {
            x.turn(row);
        } else if (which == 2) {
            x.rotate(row, 1);
        } else if (which == 3) {
            x.swap(row, 0, 1);
        } else if (which == 4) {
            x.fill(row, 9);
        } else {
            x.replace(row, 1, 9);
        }
    }

    /** That it was TURNED by one call another one does not undo. */
    private static void takesOutNoneBehindBoth(int row, int first, int second) {
        Overwalks x = Checks.with(row, 1, 2, 3);
        x.walk(0, row, 1);
        x.next(0);
        turnBy(x, row, first);
        turnBy(x, row, second);
        Checks.refused(x, "takeOut behind " + first + " and " + second, () -> x.takeOut(0));
    }

    private static void takesOutOnceForEach(int shelf) {
        Overwalks x = Checks.with(shelf, 1, 2, 3, 4);
        x.walk(0, shelf, 1);
        Checks.refused(x, "takeOut ahead of all", () -> x.takeOut(0));
        x.skip(0, 2);
        Checks.due("takeOut", x.takeOut(0), 3);
        Checks.refused(x, "takeOut again, not of the one ahead", () -> x.takeOut(0));
        x.skip(0, 0);
        Checks.refused(x, "takeOut behind skip of none", () -> x.takeOut(0));
        Checks.due("next", x.next(0), 3);
        Checks.due("takeOut of the next", x.takeOut(0), 2);
        Checks.refused(x, "takeOut of it again", () -> x.takeOut(0));
        x.walk(0, shelf, 1);
        Checks.refused(x, "takeOut when made anew", () -> x.takeOut(0));
        Checks.due("the others stay", x.text(shelf), "1 4");
    }

    private static void takesOutNoneThatWasTurned(int row) {
        Overwalks x = Checks.with(row, 1, 2, 3, 4);
        x.turn(row);
        x.walk(0, row, 1);
        x.turn(row);
        x.next(0);
        Checks.due("TURNED ahead of it alone", x.takeOut(0), 3);
        x.next(0);
        x.swap(row, 0, 2);
        Checks.refused(x, "TURNED since", () -> x.takeOut(0));
        x.swap(row, 0, 2);
        Checks.refused(x, "TURNED since and turned back", () -> x.takeOut(0));
        x.skip(0, 0);
        Checks.refused(x, "none was given since", () -> x.takeOut(0));
        Checks.due("next", x.next(0), 3);
        Checks.due("the next can go", x.takeOut(0), 2);
        Checks.due("what stays", x.text(row), "2 4");
        x.turn(row == 0 ? 1 : 0);
        x.next(0);
        x.turn(row == 0 ? 1 : 0);
        Checks.due("another row was TURNED", x.takeOut(0), 1);
    }
}
