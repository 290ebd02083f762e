/** Promises 17 to 27: walks. */
public final class WalkPromisesTest {
    private static final int NONE = Checks.NONE;
    private static final int NOTHING = Checks.NOTHING;
    private static final int ENUMERATION = 0;
    private static final int ITERATOR = 1;
    private static final int ELEMENTS = 2;

    /** A call of one WALK. */
    private interface WalkCall {
        Object answer(Overwalks x, int walk);
    }

    public static void main(String[] args) {
        promise17Walk();
        promise18Next();
        promise18NextIsAsItStandsAtTheTime();
        promise19More();
        promise20TakeOut();
        promise20WhatIsNotTakenOut();
        promise20ByTheOtherHalfOfTheTable();
        promise21Rest();
        promise22KeepRest();
        promise23Keep();
        promise24Drop();
        promise25Skip();
        promise26PourRest();
        promise26PourRestRefused();
        promise27Zip();
        promises21To27OnFullShelves();
        Checks.end();
    }

    private static void promise17Walk() {
        for (int shelf = 0; shelf <= 10; shelf++) {
            for (int how = 0; how <= 2; how++) {
                Overwalks x = Checks.with(shelf, 3, 1, 2);
                int over = shelf;
                int by = how;
                if (how == ELEMENTS && shelf != 0) {
                    Checks.badArgument(x, "ELEMENTS of " + shelf, () -> x.walk(0, over, by));
                    continue;
                }
                Checks.due("walk(5, ..)", x.walk(5, shelf, how), 3);
                Checks.due("SHELF", x.ofWalk(5, 0), shelf);
                Checks.due("HOW", x.ofWalk(5, 1), how);
                Checks.due("GIVEN", x.ofWalk(5, 2), 0);
                x.next(5);
                x.clear(shelf);
                Checks.due("again, over none", x.walk(5, shelf, how), 0);
                Checks.due("GIVEN again", x.ofWalk(5, 2), 0);
                Checks.due("STALE no longer", x.ofWalk(5, 3), 0);
            }
        }
        whatItWasIsGone();
        Overwalks x = Checks.with(0, 1, 2);
        x.walk(0, 0, ITERATOR);
        for (int walk : Checks.NO_WALKS) {
            Checks.noPlace(x, "walk " + walk, () -> x.walk(walk, 0, 3));
        }
        for (int shelf : Checks.NO_SHELVES) {
            Checks.noPlace(x, "walk over " + shelf, () -> x.walk(0, shelf, 3));
        }
        for (int how : new int[] {-1, 3, Integer.MIN_VALUE, Integer.MAX_VALUE}) {
            Checks.badArgument(x, "walk by " + how, () -> x.walk(0, 0, how));
        }
    }

    private static void whatItWasIsGone() {
        Overwalks x = Checks.with(0, 1, 2, 3);
        x.walk(0, 0, ITERATOR);
        x.next(0);
        x.takeOut(0);
        x.next(0);
        x.walk(0, 0, ITERATOR);
        Checks.refused(x, "takeOut of a WALK made again", () -> x.takeOut(0));
        Checks.due("it begins again", x.next(0), 2);
    }

    private static void promise18Next() {
        for (int shelf = 0; shelf <= 10; shelf++) {
            for (int how = 0; how <= (shelf == 0 ? 2 : 1); how++) {
                Overwalks x = Checks.with(shelf, 1, 2, 3);
                x.walk(2, shelf, how);
                for (int given = 1; given <= 3; given++) {
                    Checks.due("next over " + shelf, x.next(2), given);
                    Checks.due("GIVEN", x.ofWalk(2, 2), given);
                }
                Checks.refused(x, "no MORE", () -> x.next(2));
                Checks.refused(x, "no MORE again", () -> x.next(2));
                x.walk(2, shelf, how);
                x.take(shelf, 3);
                Checks.refused(x, "STALE", () -> x.next(2));
            }
        }
        Overwalks x = Checks.with(4, NOTHING, 8);
        x.walk(1, 4, ENUMERATION);
        Checks.due("NOTHING", x.next(1), NOTHING);
        needsAMadeWalk("next", (y, walk) -> y.next(walk));
    }

    private static void promise18NextIsAsItStandsAtTheTime() {
        for (int row : Checks.ROWS) {
            Overwalks x = Checks.with(row, 1, 2, 3, 4);
            x.walk(0, row, ENUMERATION);
            x.walk(1, row, ITERATOR);
            x.next(0);
            x.next(1);
            x.change(row, 1, 9);
            Checks.due("changed", x.next(0), 9);
            x.turn(row);
            Checks.due("turned", x.next(0), 9);
            Checks.due("turned", x.next(1), 3);
            x.swap(row, 3, 0);
            Checks.due("swapped", x.next(0), 4);
            x.fill(row, NOTHING);
            Checks.due("filled", x.next(1), NOTHING);
        }
    }

    private static void promise19More() {
        Overwalks x = Checks.with(3, 5, 6);
        x.walk(0, 3, ENUMERATION);
        Checks.onlyAsks(x, "two more", () -> x.more(0), 1);
        x.next(0);
        Checks.onlyAsks(x, "one more", () -> x.more(0), 1);
        x.next(0);
        Checks.onlyAsks(x, "no more", () -> x.more(0), 0);
        x.put(3, 6);
        Checks.onlyAsks(x, "nothing came", () -> x.more(0), 0);
        x.put(3, 7);
        Checks.refused(x, "more of a STALE one", () -> x.more(0));
        x.walk(1, 9, ITERATOR);
        Checks.onlyAsks(x, "over none", () -> x.more(1), 0);
        x.keep(9, 9);
        Checks.refused(x, "a LIST made anew, also with the same", () -> x.more(1));
        needsAMadeWalk("more", (y, walk) -> y.more(walk));
    }

    private static void promise20TakeOut() {
        for (int shelf = 0; shelf <= 10; shelf++) {
            if (shelf == 7) {
                continue;
            }
            Overwalks x = Checks.with(shelf, 1, 2, 3, 4);
            x.walk(0, shelf, ITERATOR);
            x.walk(1, shelf, ITERATOR);
            x.next(0);
            Checks.due("next", x.next(0), 2);
            Checks.due("takeOut over " + shelf, x.takeOut(0), 3);
            Checks.due("what it gave last goes", x.text(shelf), "1 3 4");
            Checks.due("GIVEN stays", x.ofWalk(0, 2), 2);
            Checks.due("not STALE itself", x.ofWalk(0, 3), 0);
            Checks.due("another one is STALE", x.ofWalk(1, 3), 1);
            Checks.refused(x, "twice", () -> x.takeOut(0));
            Checks.due("the next one", x.next(0), 3);
            Checks.due("takeOut", x.takeOut(0), 2);
            Checks.due("more", x.more(0), 1);
            Checks.due("the last one", x.next(0), 4);
            Checks.due("no more", x.more(0), 0);
            Checks.refused(x, "no more to give", () -> x.next(0));
            Checks.due("takeOut still", x.takeOut(0), 1);
            Checks.due("text", x.text(shelf), "1");
            Checks.due("GIVEN", x.ofWalk(0, 2), 4);
        }
        Overwalks twice = Checks.with(2, 7, 7, 8, 7);
        twice.walk(0, 2, ITERATOR);
        twice.skip(0, 4);
        Checks.due("the last 7", twice.takeOut(0), 3);
        Checks.due("not the first 7", twice.text(2), "7 7 8");
        needsAMadeWalk("takeOut", (y, walk) -> y.takeOut(walk));
    }

    private static void promise20WhatIsNotTakenOut() {
        for (int shelf = 0; shelf <= 10; shelf++) {
            Overwalks x = Checks.with(shelf, 1, 2, 3);
            x.walk(0, shelf, ENUMERATION);
            x.next(0);
            Checks.refused(x, "by an ENUMERATION", () -> x.takeOut(0));
            x.walk(0, shelf, ITERATOR);
            Checks.refused(x, "it gave none", () -> x.takeOut(0));
            x.skip(0, 0);
            Checks.refused(x, "it gave none still", () -> x.takeOut(0));
            x.next(0);
            x.take(shelf, 3);
            Checks.refused(x, "STALE", () -> x.takeOut(0));
        }
        Overwalks x = Checks.with(0, 1, 2, 3);
        x.walk(0, 0, ELEMENTS);
        x.next(0);
        Checks.refused(x, "by ELEMENTS", () -> x.takeOut(0));
        x.walk(0, 0, ITERATOR);
        x.turn(0);
        x.next(0);
        Checks.due("TURNED ahead of what it gave", x.takeOut(0), 2);
        x.next(0);
        x.turn(1);
        Checks.due("another SHELF TURNED", x.takeOut(0), 1);
        x.next(0);
        x.turn(0);
        x.skip(0, 0);
        Checks.refused(x, "TURNED since", () -> x.takeOut(0));
        Checks.refused(x, "no MORE", () -> x.next(0));
        Checks.refused(x, "TURNED since still", () -> x.takeOut(0));
        Checks.badArgument(x, "a change that throws", () -> x.change(0, 0, 101));
        x.walk(0, 0, ITERATOR);
        x.next(0);
        Checks.badArgument(x, "a fill that throws", () -> x.fill(0, -1));
        Checks.noPlace(x, "a swap that throws", () -> x.swap(0, 0, 5));
        Checks.badArgument(x, "a rotate that throws", () -> x.rotate(0, 21));
        Checks.badArgument(x, "a replace that throws", () -> x.replace(0, 1, 101));
        Checks.badArgument(x, "a change that throws", () -> x.change(0, 0, 101));
        Checks.due("not TURNED by what throws", x.takeOut(0), 0);
    }

    private static void promise20ByTheOtherHalfOfTheTable() {
        Overwalks x = Checks.with(6, 1, 2, 3);
        x.pair(2, 50);
        x.walk(0, 7, ITERATOR);
        x.next(0);
        Checks.refused(x, "over VALUES", () -> x.takeOut(0));
        x.walk(1, 6, ITERATOR);
        x.skip(1, 2);
        x.pair(2, 60);
        Checks.due("of KEYS", x.takeOut(1), 2);
        Checks.due("with its VALUE", x.text(6) + "/" + x.text(7), "1 3/1 3");
        Checks.due("a WALK over VALUES is STALE", x.ofWalk(0, 3), 1);
        Checks.due("the one over KEYS is not", x.next(1), 3);
        x.walk(0, 7, ENUMERATION);
        x.take(7, 1);
        Checks.due("both SHIFTED", x.ofWalk(0, 3) + x.ofWalk(1, 3), 2);
    }

    private static void promise21Rest() {
        for (int shelf = 0; shelf <= 10; shelf++) {
            Overwalks x = Checks.with(shelf, 1, 2, 3);
            x.walk(0, shelf, ENUMERATION);
            x.next(0);
            Checks.due("rest over " + shelf, x.rest(0), "2 3");
            Checks.due("GIVEN", x.ofWalk(0, 2), 3);
            Checks.due("rest again", x.rest(0), "");
            x.walk(0, shelf, ENUMERATION);
            Checks.due("all", x.rest(0), "1 2 3");
            x.walk(0, shelf, ITERATOR);
            Checks.refused(x, "of an ITERATOR", () -> x.rest(0));
            x.walk(0, shelf, ENUMERATION);
            x.take(shelf, 2);
            Checks.refused(x, "of a STALE one", () -> x.rest(0));
        }
        Overwalks x = Checks.with(0, NOTHING, 99, NOTHING);
        x.walk(3, 0, ELEMENTS);
        Checks.due("of ELEMENTS", x.rest(3), "- 99 -");
        needsAMadeWalk("rest", (y, walk) -> y.rest(walk));
    }

    private static void promise22KeepRest() {
        for (int list = 8; list <= 10; list++) {
            int into = list;
            Overwalks x = Checks.with(4, 1, NOTHING, 3);
            Checks.lay(x, list, 7, 7);
            x.walk(0, 4, ENUMERATION);
            x.walk(1, list, ENUMERATION);
            x.next(0);
            Checks.due("keepRest into " + list, x.keepRest(0, list), 2);
            Checks.due("the LIST", x.text(list), "- 3");
            Checks.due("GIVEN", x.ofWalk(0, 2), 3);
            Checks.due("not STALE", x.ofWalk(0, 3), 0);
            Checks.due("one over the LIST is STALE", x.ofWalk(1, 3), 1);
            x.walk(1, list, ENUMERATION);
            Checks.refused(x, "over that LIST", () -> x.keepRest(1, into));
            Checks.due("none is left", x.keepRest(0, list), 0);
            Checks.due("an empty LIST", x.size(list), 0);
            x.walk(1, list, ENUMERATION);
            Checks.due("none is left again", x.keepRest(0, list), 0);
            Checks.due("made anew always", x.ofWalk(1, 3), 1);
            x.walk(0, 4, ITERATOR);
            Checks.refused(x, "of an ITERATOR", () -> x.keepRest(0, into));
            x.walk(0, 4, ENUMERATION);
            x.put(4, 9);
            Checks.refused(x, "of a STALE one", () -> x.keepRest(0, into));
        }
        Overwalks x = Checks.with(8, 1, 2);
        x.walk(0, 8, ENUMERATION);
        Checks.due("into another LIST", x.keepRest(0, 10), 2);
        x.walk(1, 0, ELEMENTS);
        Checks.due("of ELEMENTS", x.keepRest(1, 8), 0);
        for (int list : Checks.NO_LISTS) {
            Checks.noPlace(x, "into " + list, () -> x.keepRest(4, list));
        }
        needsAMadeWalk("keepRest", (y, walk) -> y.keepRest(walk, 10));
    }

    private static void promise23Keep() {
        for (int list = 8; list <= 10; list++) {
            for (int shelf = 0; shelf <= 10; shelf++) {
                Overwalks x = Checks.with(shelf, 1, 2, 3);
                if (shelf != list) {
                    x.put(list, NOTHING);
                }
                x.walk(0, list, ITERATOR);
                Checks.due("keep(" + list + ", " + shelf + ")", x.keep(list, shelf), 3);
                Checks.due("the LIST", x.text(list), "1 2 3");
                Checks.due("the SHELF", x.text(shelf), "1 2 3");
                Checks.due("made anew", x.ofWalk(0, 3), 1);
                x.clear(shelf);
                x.put(list, 7);
                Checks.due("apart then", x.size(list), shelf == list ? 1 : 4);
            }
        }
        Overwalks x = Checks.with(1, NOTHING, 5);
        x.walk(1, 8, ENUMERATION);
        Checks.due("of none", x.keep(8, 2), 0);
        Checks.due("made anew always", x.ofWalk(1, 3), 1);
        x.keep(9, 1);
        Checks.due("with NOTHING", x.text(9), "- 5");
        for (int list : Checks.NO_LISTS) {
            Checks.noPlace(x, "keep " + list, () -> x.keep(list, 1));
        }
        for (int shelf : Checks.NO_SHELVES) {
            Checks.noPlace(x, "keep of " + shelf, () -> x.keep(8, shelf));
        }
    }

    private static void promise24Drop() {
        Overwalks x = Checks.with(0, 1);
        for (int walk = 0; walk <= 5; walk++) {
            Checks.due("none to drop", x.drop(walk), 0);
            x.walk(walk, 0, ITERATOR);
            Checks.due("drop " + walk, x.drop(walk), 1);
            Checks.due("gone", x.ofWalk(walk, 0), NONE);
            Checks.due("drop again", x.drop(walk), 0);
        }
        x.walk(3, 0, ITERATOR);
        x.walk(4, 0, ITERATOR);
        x.put(0, 2);
        Checks.due("a STALE one", x.drop(3), 1);
        Checks.due("another one stays", x.house(2), 1);
        for (int walk : Checks.NO_WALKS) {
            Checks.noPlace(x, "drop " + walk, () -> x.drop(walk));
        }
    }

    private static void promise25Skip() {
        for (int how = 0; how <= 2; how++) {
            Overwalks x = Checks.with(0, 1, NOTHING, 3, 4, 5);
            x.walk(0, 0, how);
            Checks.due("none", x.skip(0, 0), 0);
            Checks.due("two", x.skip(0, 2), 2);
            Checks.due("GIVEN", x.ofWalk(0, 2), 2);
            Checks.due("the next one", x.next(0), 3);
            Checks.due("up to twelve", x.skip(0, 12), 2);
            Checks.due("GIVEN", x.ofWalk(0, 2), 5);
            Checks.due("no more", x.skip(0, 1), 0);
            for (int many : new int[] {-1, 13, Integer.MIN_VALUE, Integer.MAX_VALUE}) {
                Checks.badArgument(x, "skip " + many, () -> x.skip(0, many));
                Checks.badArgument(x, "skip " + many + " of none", () -> x.skip(1, many));
            }
            x.take(0, 1);
            Checks.refused(x, "of a STALE one", () -> x.skip(0, 1));
            Checks.refused(x, "none of a STALE one", () -> x.skip(0, 0));
        }
        Overwalks x = Checks.with(10, Checks.upTo(12));
        x.walk(0, 10, ITERATOR);
        x.next(0);
        x.turn(10);
        x.skip(0, 1);
        Checks.due("the last skipped one goes out", x.takeOut(0), 11);
        Checks.due("text", x.text(10), "12 10 9 8 7 6 5 4 3 2 1");
        needsAMadeWalk("skip", (y, walk) -> y.skip(walk, 1));
    }

    private static void promise26PourRest() {
        Overwalks x = Checks.with(4, 3, 1, NOTHING, 2);
        x.walk(0, 4, ENUMERATION);
        x.next(0);
        Checks.due("on a row", x.pourRest(0, 2), 3);
        Checks.due("the row", x.text(2), "1 - 2");
        Checks.due("GIVEN", x.ofWalk(0, 2), 4);
        Checks.due("not STALE", x.more(0), 0);
        Checks.due("none is left", x.pourRest(0, 2), 0);
        x.walk(0, 4, ENUMERATION);
        Checks.due("on its own KEPT", x.pourRest(0, 4), 4);
        Checks.due("nothing came", x.more(0), 0);
        x.walk(0, 2, ENUMERATION);
        x.next(0);
        Checks.due("on its own row", x.pourRest(0, 2), 2);
        Checks.due("text", x.text(2), "1 - 2 - 2");
        Checks.due("GIVEN", x.ofWalk(0, 2), 3);
        Checks.due("STALE then", x.ofWalk(0, 3), 1);
        x.walk(0, 2, ENUMERATION);
        x.skip(0, 12);
        Checks.due("none is left for its own row", x.pourRest(0, 2), 0);
        Checks.due("not STALE", x.ofWalk(0, 3), 0);
        x.pair(9, 5);
        x.pair(8, 6);
        x.walk(1, 7, ENUMERATION);
        Checks.due("VALUES on RISING", x.pourRest(1, 3), 2);
        Checks.due("RISING", x.text(3), "5 6");
        x.walk(1, 6, ENUMERATION);
        Checks.due("KEYS on the QUEUE", x.pourRest(1, 5), 2);
        Checks.due("QUEUE", x.text(5), "8 9");
    }

    private static void promise26PourRestRefused() {
        Overwalks x = Checks.with(0, NOTHING, 1, 2);
        x.walk(0, 0, ELEMENTS);
        x.next(0);
        Checks.refused(x, "NOTHING lies there, given or not", () -> x.pourRest(0, 3));
        Checks.refused(x, "on the QUEUE", () -> x.pourRest(0, 5));
        Checks.refused(x, "on KEYS", () -> x.pourRest(0, 6));
        x.change(0, 0, 5);
        Checks.refused(x, "on VALUES", () -> x.pourRest(0, 7));
        Checks.due("no NOTHING there", x.pourRest(0, 3), 2);
        x.walk(1, 0, ITERATOR);
        Checks.refused(x, "of an ITERATOR", () -> x.pourRest(1, 1));
        x.walk(1, 0, ENUMERATION);
        x.take(0, 1);
        Checks.refused(x, "of a STALE one", () -> x.pourRest(1, 1));
        for (int shelf : Checks.NO_SHELVES) {
            Checks.noPlace(x, "into " + shelf, () -> x.pourRest(5, shelf));
        }
        Overwalks seven = Checks.with(1, 1, 2, 3, 4, 5, 6, NOTHING);
        seven.walk(0, 1, ENUMERATION);
        seven.skip(0, 7);
        Checks.badState(seven, "its own twice is 14", () -> seven.pourRest(0, 1));
        Checks.lay(seven, 3, 1, 2, 3, 4, 5, 6);
        Checks.badState(seven, "13 together, none is left", () -> seven.pourRest(0, 3));
        seven.take(3, 6);
        Checks.refused(seven, "12 together with NOTHING", () -> seven.pourRest(0, 3));
        seven.walk(1, 1, ITERATOR);
        seven.put(1, 1);
        Checks.badState(seven, "13 by a STALE ITERATOR", () -> seven.pourRest(1, 3));
        needsAMadeWalk("pourRest", (y, walk) -> y.pourRest(walk, 9));
    }

    private static void promise27Zip() {
        Overwalks x = Checks.with(0, 1, NOTHING, 3);
        Checks.lay(x, 5, 7, 8, 9, 10, 11);
        x.walk(0, 0, ELEMENTS);
        x.walk(1, 5, ITERATOR);
        x.next(1);
        Checks.due("the second has more", x.zip(0, 1), "1/8 -/9 3/10");
        Checks.due("GIVEN", x.ofWalk(0, 2) * 10 + x.ofWalk(1, 2), 34);
        Checks.due("none", x.zip(0, 1), "");
        Checks.due("GIVEN", x.ofWalk(0, 2) * 10 + x.ofWalk(1, 2), 34);
        Checks.due("what it gave last goes", x.takeOut(1), 4);
        Checks.due("the QUEUE", x.text(5), "7 8 9 11");
        x.walk(0, 0, ITERATOR);
        Checks.due("the first has more", x.zip(0, 1), "1/11");
        x.walk(1, 0, ITERATOR);
        x.walk(2, 0, ITERATOR);
        x.next(1);
        Checks.due("over the same SHELF", x.zip(1, 2), "-/1 3/-");
        x.takeOut(1);
        Checks.refused(x, "the other is STALE", () -> x.zip(1, 2));
        Checks.refused(x, "the first is STALE", () -> x.zip(2, 1));
        for (int walk : Checks.NO_WALKS) {
            Checks.noPlace(x, "zip of " + walk, () -> x.zip(walk, walk));
            Checks.noPlace(x, "zip with " + walk, () -> x.zip(1, walk));
        }
        Checks.badArgument(x, "the same", () -> x.zip(1, 1));
        Checks.badArgument(x, "the same that was not made", () -> x.zip(5, 5));
        Checks.badState(x, "the first was not made", () -> x.zip(5, 1));
        Checks.badState(x, "the other was not made, one is STALE", () -> x.zip(2, 5));
    }

    private static void promises21To27OnFullShelves() {
        for (int shelf = 0; shelf <= 10; shelf++) {
            Overwalks x = Checks.with(shelf, Checks.upTo(12));
            String all = "1 2 3 4 5 6 7 8 9 10 11 12";
            int empty = shelf == 10 ? 9 : 10;
            x.walk(0, shelf, ENUMERATION);
            Checks.due("rest of 12", x.rest(0), all);
            Checks.due("all given", x.ofWalk(0, 2), 12);
            x.walk(0, shelf, ENUMERATION);
            Checks.due("pourRest of 12", x.pourRest(0, empty), 12);
            Checks.due("all given", x.ofWalk(0, 2), 12);
            Checks.due("poured", x.text(empty), all);
            x.walk(0, shelf, ENUMERATION);
            Checks.due("keepRest of 12", x.keepRest(0, empty), 12);
            Checks.due("all given", x.ofWalk(0, 2), 12);
            Checks.due("kept", x.text(empty), all);
            x.walk(0, shelf, ENUMERATION);
            x.walk(1, empty, ITERATOR);
            Checks.due("zip of 12", x.zip(0, 1),
                    "1/1 2/2 3/3 4/4 5/5 6/6 7/7 8/8 9/9 10/10 11/11 12/12");
            Checks.due("all given", x.ofWalk(0, 2) + x.ofWalk(1, 2), 24);
        }
    }

    private static void needsAMadeWalk(String name, WalkCall call) {
        Overwalks x = Checks.with(0, 1, 2, 3);
        for (int walk : Checks.NO_WALKS) {
            Checks.noPlace(x, name + " of " + walk, () -> call.answer(x, walk));
        }
        for (int walk = 0; walk <= 5; walk++) {
            int asked = walk;
            Checks.badState(x, name + " of a new " + walk, () -> call.answer(x, asked));
            x.walk(walk, 0, ENUMERATION);
            x.drop(walk);
            Checks.badState(x, name + " of a dropped " + walk, () -> call.answer(x, asked));
        }
    }
}
