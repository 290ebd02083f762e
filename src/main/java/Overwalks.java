/**
 * Shelves of eight kinds on which things lie, and walks over them.
 * The words (THING, SHELF, STALE, TO TAKE OUT ..) are those of shared/DOC.md.
 */
public final class Overwalks {
    private static final int NONE = -1;
    private static final int REFUSED = -9;
    private static final String REFUSED_TEXT = "!";
    private static final int NOTHING = 100;
    private static final int ROOM = 12;
    private static final int FURTHEST_ROTATION = 20;

    private static final int SHELVES = 11;
    private static final int VECTOR = 0;
    private static final int RISING = 3;
    private static final int KEPT = 4;
    private static final int KEYS = 6;
    private static final int VALUES = 7;
    private static final int FIRST_LIST = 8;

    private static final int WALKS = 6;
    private static final int ENUMERATION = 0;
    private static final int ITERATOR = 1;
    private static final int ELEMENTS = 2;

    private static final long DIGEST_START = 7780;

    private final Shelf[] shelves;
    private final Walk[] walks;

    // isSound() walks and lists with these, so that it makes nothing anew and no WALK goes on.
    private final Walk probe;
    private final Walk otherProbe;
    private final Shelf probeList;

    private int refusals;
    private int knocks;

    public Overwalks() {
        shelves = new Shelf[] {
            new Shelf(Kind.ROW), new Shelf(Kind.ROW), new Shelf(Kind.ROW),
            new Shelf(Kind.RISING), new Shelf(Kind.KEPT), new Shelf(Kind.QUEUE),
            new Shelf(Kind.TABLE), new Shelf(Kind.TABLE),
            new Shelf(Kind.ROW), new Shelf(Kind.ROW), new Shelf(Kind.ROW)
        };
        walks = new Walk[WALKS];
        for (int number = 0; number < WALKS; number++) {
            walks[number] = new Walk(shelves[VECTOR]);
        }
        probe = new Walk(shelves[VECTOR]);
        otherProbe = new Walk(shelves[VECTOR]);
        probeList = new Shelf(Kind.ROW);
    }

    // ---- shelves

    public int put(int shelf, int thing)
            throws IndexOutOfBoundsException, IllegalArgumentException, IllegalStateException {
        Shelf into = shelfAt(shelf);
        requireThingOrNothing(thing);
        requireRoom(into, 1);
        if (into.isOfTable() || !into.takesIn(thing)) {
            return refuse();
        }
        return oneIf(into.layDown(thing));
    }

    public int putAll(int shelf, int a, int b, int c, int d)
            throws IndexOutOfBoundsException, IllegalArgumentException, IllegalStateException {
        Shelf into = shelfAt(shelf);
        requireThingNothingOrNone(a);
        requireThingNothingOrNone(b);
        requireThingNothingOrNone(c);
        requireThingNothingOrNone(d);
        int many = countToFirstNone(a, b, c, d);
        requireRoom(into, many);
        if (into.isOfTable()) {
            return refuse();
        }
        for (int i = 0; i < many; i++) {
            if (!into.takesIn(oneOfFour(i, a, b, c, d))) {
                return refuse();
            }
        }
        boolean isOtherwise = false;
        for (int i = 0; i < many; i++) {
            if (into.layDown(oneOfFour(i, a, b, c, d))) {
                isOtherwise = true;
            }
        }
        return oneIf(isOtherwise);
    }

    public int take(int shelf, int thing)
            throws IndexOutOfBoundsException, IllegalArgumentException {
        Shelf from = shelfAt(shelf);
        requireThingOrNothing(thing);
        if (!from.takesIn(thing)) {
            return refuse();
        }
        int place = from.firstPlace(thing);
        if (place == NONE) {
            return 0;
        }
        liftFrom(from, place);
        return 1;
    }

    public int clear(int shelf) throws IndexOutOfBoundsException {
        Shelf cleared = shelfAt(shelf);
        int lay = cleared.count;
        if (cleared.isOfTable()) {
            shelves[KEYS].liftAll();
            shelves[VALUES].liftAll();
        } else {
            cleared.liftAll();
        }
        return lay;
    }

    public int pair(int key, int value) throws IllegalArgumentException, IllegalStateException {
        requireThing(key);
        requireThing(value);
        Shelf keys = shelves[KEYS];
        Shelf values = shelves[VALUES];
        int place = keys.firstPlace(key);
        if (place != NONE) {
            return values.exchange(place, value);
        }
        requireRoom(keys, 1);
        place = keys.risingPlace(key);
        keys.layAhead(place, key);
        values.layAhead(place, value);
        return NONE;
    }

    public int pour(int from, int into) throws IndexOutOfBoundsException, IllegalStateException {
        Shelf source = shelfAt(from);
        Shelf target = shelfAt(into);
        requireRoom(target, source.count);
        if (cannotPour(source, target)) {
            return refuse();
        }
        return oneIf(pourBehind(source, 0, target));
    }

    public int change(int row, int place, int thing)
            throws IndexOutOfBoundsException, IllegalArgumentException {
        Shelf changed = rowAt(row);
        requirePlace(place, changed.count);
        requireThingOrNothing(thing);
        changed.turns++;
        return changed.exchange(place, thing);
    }

    public int insert(int row, int place, int thing)
            throws IndexOutOfBoundsException, IllegalArgumentException, IllegalStateException {
        Shelf into = rowAt(row);
        requirePlace(place, into.count + 1);
        requireThingOrNothing(thing);
        requireRoom(into, 1);
        into.layAhead(place, thing);
        return into.count;
    }

    public int remove(int row, int place) throws IndexOutOfBoundsException {
        Shelf from = rowAt(row);
        requirePlace(place, from.count);
        return from.lift(place);
    }

    public int turn(int row) throws IndexOutOfBoundsException {
        Shelf turned = rowAt(row);
        turned.turns++;
        turned.reverse(0, turned.count);
        return turned.count;
    }

    public int rotate(int row, int by)
            throws IndexOutOfBoundsException, IllegalArgumentException {
        Shelf rotated = rowAt(row);
        if (by < -FURTHEST_ROTATION || by > FURTHEST_ROTATION) {
            throw new IllegalArgumentException("by is not -20 to 20");
        }
        rotated.turns++;
        if (rotated.count > 0) {
            rotated.moveOn(Math.floorMod(by, rotated.count));
        }
        return rotated.count;
    }

    public int swap(int row, int place, int other) throws IndexOutOfBoundsException {
        Shelf swapped = rowAt(row);
        requirePlace(place, swapped.count);
        requirePlace(other, swapped.count);
        swapped.turns++;
        swapped.exchange(other, swapped.exchange(place, swapped.thingAt(other)));
        return swapped.thingAt(place);
    }

    public int fill(int row, int thing)
            throws IndexOutOfBoundsException, IllegalArgumentException {
        Shelf filled = rowAt(row);
        requireThingOrNothing(thing);
        filled.turns++;
        for (int place = 0; place < filled.count; place++) {
            filled.exchange(place, thing);
        }
        return filled.count;
    }

    public int replace(int row, int thing, int by)
            throws IndexOutOfBoundsException, IllegalArgumentException {
        Shelf replaced = rowAt(row);
        requireThingOrNothing(thing);
        requireThingOrNothing(by);
        replaced.turns++;
        boolean layThere = false;
        for (int place = 0; place < replaced.count; place++) {
            if (replaced.thingAt(place) == thing) {
                replaced.exchange(place, by);
                layThere = true;
            }
        }
        return oneIf(layThere);
    }

    public int copies(int row, int thing, int many)
            throws IndexOutOfBoundsException, IllegalArgumentException, IllegalStateException {
        Shelf into = rowAt(row);
        requireThingOrNothing(thing);
        requireUpToRoom(many);
        requireRoom(into, many);
        for (int i = 0; i < many; i++) {
            into.layDown(thing);
        }
        return into.count;
    }

    // ---- walks

    public int walk(int walk, int shelf, int how)
            throws IndexOutOfBoundsException, IllegalArgumentException {
        Walk made = walkAt(walk);
        Shelf over = shelfAt(shelf);
        if (how < ENUMERATION || how > ELEMENTS) {
            throw new IllegalArgumentException("how is not 0 to 2");
        }
        if (how == ELEMENTS && shelf != VECTOR) {
            throw new IllegalArgumentException("only the vector has elements");
        }
        made.begin(over, shelf, how);
        return over.count;
    }

    public int next(int walk) throws IndexOutOfBoundsException, IllegalStateException {
        Walk giver = walkAt(walk);
        requireMade(giver);
        if (!giver.hasMore()) {
            return refuse();
        }
        return giver.give();
    }

    public int more(int walk) throws IndexOutOfBoundsException, IllegalStateException {
        Walk asked = walkAt(walk);
        requireMade(asked);
        if (asked.isStale()) {
            return refuse();
        }
        return oneIf(asked.hasMore());
    }

    public int takeOut(int walk) throws IndexOutOfBoundsException, IllegalStateException {
        Walk taker = walkAt(walk);
        requireMade(taker);
        if (taker.isStale() || taker.how != ITERATOR || taker.shelf == VALUES
                || !taker.canTakeOut()) {
            return refuse();
        }
        liftFrom(taker.over, taker.ahead() - 1);
        taker.tookOut();
        return taker.over.count;
    }

    public String rest(int walk) throws IndexOutOfBoundsException, IllegalStateException {
        Walk giver = walkAt(walk);
        requireMade(giver);
        if (!giver.canGiveAll()) {
            refuse();
            return REFUSED_TEXT;
        }
        int start = giver.ahead();
        giver.giveUpTo(ROOM);
        return textBehind(giver.over, start);
    }

    public int keepRest(int walk, int list)
            throws IndexOutOfBoundsException, IllegalStateException {
        Walk giver = walkAt(walk);
        Shelf into = listAt(list);
        requireMade(giver);
        if (!giver.canGiveAll() || giver.shelf == list) {
            return refuse();
        }
        return listRest(giver, into);
    }

    public int keep(int list, int shelf) throws IndexOutOfBoundsException {
        Shelf into = listAt(list);
        into.becomeListOf(shelfAt(shelf), 0);
        return into.count;
    }

    public int drop(int walk) throws IndexOutOfBoundsException {
        Walk dropped = walkAt(walk);
        boolean wasMade = dropped.isMade;
        dropped.isMade = false;
        return oneIf(wasMade);
    }

    public int skip(int walk, int many)
            throws IndexOutOfBoundsException, IllegalArgumentException, IllegalStateException {
        Walk giver = walkAt(walk);
        requireUpToRoom(many);
        requireMade(giver);
        if (giver.isStale()) {
            return refuse();
        }
        return giver.giveUpTo(many);
    }

    public int pourRest(int walk, int into)
            throws IndexOutOfBoundsException, IllegalStateException {
        Walk giver = walkAt(walk);
        Shelf target = shelfAt(into);
        requireMade(giver);
        requireRoom(target, giver.over.count);
        if (!giver.canGiveAll() || cannotPour(giver.over, target)) {
            return refuse();
        }
        int start = giver.ahead();
        int given = giver.giveUpTo(ROOM);
        pourBehind(giver.over, start, target);
        return given;
    }

    public String zip(int walk, int other)
            throws IndexOutOfBoundsException, IllegalArgumentException, IllegalStateException {
        Walk one = walkAt(walk);
        Walk two = walkAt(other);
        if (walk == other) {
            throw new IllegalArgumentException("both walks are the same");
        }
        requireMade(one);
        requireMade(two);
        if (one.isStale() || two.isStale()) {
            refuse();
            return REFUSED_TEXT;
        }
        StringBuilder pairs = new StringBuilder();
        for (int i = 0; i < ROOM && one.hasMore() && two.hasMore(); i++) {
            appendBlankBehindFirst(pairs, i);
            appendThing(pairs, one.give());
            pairs.append('/');
            appendThing(pairs, two.give());
        }
        return pairs.toString();
    }

    // ---- what is asked

    public String text(int shelf) throws IndexOutOfBoundsException {
        return textBehind(shelfAt(shelf), 0);
    }

    public String list(int shelf) throws IndexOutOfBoundsException {
        return textBehind(shelfAt(shelf), 0);
    }

    public int size(int shelf) throws IndexOutOfBoundsException {
        return shelfAt(shelf).count;
    }

    public boolean isEmpty(int shelf) throws IndexOutOfBoundsException {
        return shelfAt(shelf).count == 0;
    }

    public int has(int shelf, int thing)
            throws IndexOutOfBoundsException, IllegalArgumentException {
        Shelf asked = shelfAt(shelf);
        requireThingOrNothing(thing);
        if (!asked.takesIn(thing)) {
            return refuse();
        }
        return oneIf(asked.holds(thing));
    }

    public int often(int shelf, int thing)
            throws IndexOutOfBoundsException, IllegalArgumentException {
        Shelf asked = shelfAt(shelf);
        requireThingOrNothing(thing);
        return asked.countOf(thing);
    }

    public int placeOf(int row, int thing, boolean isLast)
            throws IndexOutOfBoundsException, IllegalArgumentException {
        Shelf asked = rowAt(row);
        requireThingOrNothing(thing);
        return isLast ? asked.lastPlace(thing) : asked.firstPlace(thing);
    }

    public int disjoint(int one, int other) throws IndexOutOfBoundsException {
        Shelf left = shelfAt(one);
        Shelf right = shelfAt(other);
        if (hasNothingsThatAreNotTaken(left, right) || hasNothingsThatAreNotTaken(right, left)) {
            return refuse();
        }
        for (int place = 0; place < left.count; place++) {
            if (right.holds(left.thingAt(place))) {
                return 0;
            }
        }
        return 1;
    }

    public int end(int shelf, boolean isLeast) throws IndexOutOfBoundsException {
        Shelf asked = shelfAt(shelf);
        if (asked.count == 0 || asked.holds(NOTHING)) {
            return refuse();
        }
        int found = asked.thingAt(0);
        for (int place = 1; place < asked.count; place++) {
            int thing = asked.thingAt(place);
            found = isLeast ? Math.min(found, thing) : Math.max(found, thing);
        }
        return found;
    }

    public int code(int shelf) throws IndexOutOfBoundsException {
        Shelf asked = shelfAt(shelf);
        int code = 1;
        for (int place = 0; place < asked.count; place++) {
            int thing = asked.thingAt(place);
            code = code * 31 + (thing == NOTHING ? 0 : thing);
        }
        return code;
    }

    public boolean areAlike(int one, int other) throws IndexOutOfBoundsException {
        Shelf left = shelfAt(one);
        Shelf right = shelfAt(other);
        return haveTheSame(left, right);
    }

    public int first(int shelf, boolean isLast) throws IndexOutOfBoundsException {
        Shelf asked = shelfAt(shelf);
        if (asked.count == 0) {
            return refuse();
        }
        return asked.thingAt(isLast ? asked.count - 1 : 0);
    }

    public int valueOf(int key) throws IllegalArgumentException {
        requireThing(key);
        int place = shelves[KEYS].firstPlace(key);
        return place == NONE ? NONE : shelves[VALUES].thingAt(place);
    }

    public int ofWalk(int walk, int what)
            throws IndexOutOfBoundsException, IllegalArgumentException {
        Walk asked = walkAt(walk);
        if (what < 0 || what > 3) {
            throw new IllegalArgumentException("what is not 0 to 3");
        }
        if (!asked.isMade) {
            return NONE;
        }
        switch (what) {
            case 0:
                return asked.shelf;
            case 1:
                return asked.how;
            case 2:
                return asked.given;
            default:
                return oneIf(asked.isStale());
        }
    }

    // ---- all

    public int house(int what) throws IllegalArgumentException {
        switch (what) {
            case 0:
                return countThings();
            case 1:
                return countNothings();
            case 2:
                return countWalks();
            case 3:
                return countStaleWalks();
            case 4:
                return refusals;
            case 5:
                return knocks;
            default:
                throw new IllegalArgumentException("what is not 0 to 5");
        }
    }

    public int knock() {
        knocks++;
        return knocks;
    }

    public boolean isSound() {
        for (int number = 0; number < SHELVES; number++) {
            if (!giveTheSame(number, ENUMERATION, ITERATOR) || !isItsList(number)
                    || !isItsListBehindOneStep(number)) {
                return false;
            }
        }
        return giveTheSame(VECTOR, ENUMERATION, ELEMENTS)
                && shelves[RISING].rises() && shelves[KEYS].rises()
                && shelves[KEPT].hasEachOnce()
                && shelves[KEYS].count == shelves[VALUES].count;
    }

    public long digest() {
        long d = DIGEST_START;
        for (int what = 0; what <= 5; what++) {
            d = d * 31 + house(what);
        }
        for (int number = 0; number < SHELVES; number++) {
            Shelf shelf = shelves[number];
            d = d * 31 + shelf.count;
            for (int place = 0; place < shelf.count; place++) {
                d = d * 31 + shelf.thingAt(place);
            }
        }
        for (int number = 0; number < WALKS; number++) {
            for (int what = 0; what <= 3; what++) {
                d = d * 31 + ofWalk(number, what);
            }
        }
        return d * 31 + oneIf(isSound());
    }

    // ---- what the calls demand of their arguments

    private Shelf shelfAt(int number) {
        if (number < 0 || number >= SHELVES) {
            throw new IndexOutOfBoundsException("no such shelf");
        }
        return shelves[number];
    }

    private Shelf rowAt(int number) {
        Shelf row = shelfAt(number);
        if (!row.kind.hasPlaces) {
            throw new IndexOutOfBoundsException("none of the rows");
        }
        return row;
    }

    private Shelf listAt(int number) {
        if (number < FIRST_LIST) {
            throw new IndexOutOfBoundsException("no such list");
        }
        return shelfAt(number);
    }

    private Walk walkAt(int number) {
        if (number < 0 || number >= WALKS) {
            throw new IndexOutOfBoundsException("no such walk");
        }
        return walks[number];
    }

    private static void requireMade(Walk walk) {
        if (!walk.isMade) {
            throw new IllegalStateException("this walk was not made");
        }
    }

    private static void requirePlace(int place, int places) {
        if (place < 0 || place >= places) {
            throw new IndexOutOfBoundsException("no such place");
        }
    }

    private static void requireThing(int thing) {
        if (thing < 0 || thing >= NOTHING) {
            throw new IllegalArgumentException("not 0 to 99");
        }
    }

    private static void requireThingOrNothing(int thing) {
        if (thing < 0 || thing > NOTHING) {
            throw new IllegalArgumentException("not 0 to 100");
        }
    }

    private static void requireThingNothingOrNone(int thing) {
        if (thing < NONE || thing > NOTHING) {
            throw new IllegalArgumentException("not -1 to 100");
        }
    }

    private static void requireUpToRoom(int many) {
        if (many < 0 || many > ROOM) {
            throw new IllegalArgumentException("many is not 0 to 12");
        }
    }

    private static void requireRoom(Shelf into, int coming) {
        if (into.count + coming > ROOM) {
            throw new IllegalStateException("more than 12 would lie there");
        }
    }

    // ---- how the calls do their work

    private int refuse() {
        refusals++;
        return REFUSED;
    }

    private static int oneIf(boolean isSo) {
        return isSo ? 1 : 0;
    }

    private static int countToFirstNone(int a, int b, int c, int d) {
        for (int i = 0; i < 4; i++) {
            if (oneOfFour(i, a, b, c, d) == NONE) {
                return i;
            }
        }
        return 4;
    }

    private static int oneOfFour(int which, int a, int b, int c, int d) {
        switch (which) {
            case 0:
                return a;
            case 1:
                return b;
            case 2:
                return c;
            default:
                return d;
        }
    }

    /** KEYS and VALUES lose both, so that they stay in step. */
    private void liftFrom(Shelf shelf, int place) {
        if (shelf.isOfTable()) {
            shelves[KEYS].lift(place);
            shelves[VALUES].lift(place);
        } else {
            shelf.lift(place);
        }
    }

    private static boolean cannotPour(Shelf from, Shelf into) {
        return into.isOfTable() || hasNothingsThatAreNotTaken(from, into);
    }

    private static boolean hasNothingsThatAreNotTaken(Shelf holder, Shelf other) {
        return holder.holds(NOTHING) && !other.takesIn(NOTHING);
    }

    private static boolean pourBehind(Shelf from, int start, Shelf into) {
        // A SHELF that is poured on itself grows meanwhile: what comes is not poured again.
        int stop = from.count;
        boolean isOtherwise = false;
        for (int place = start; place < stop; place++) {
            if (into.layDown(from.thingAt(place))) {
                isOtherwise = true;
            }
        }
        return isOtherwise;
    }

    private static int listRest(Walk giver, Shelf into) {
        into.becomeListOf(giver.over, giver.ahead());
        return giver.giveUpTo(ROOM);
    }

    private static boolean haveTheSame(Shelf left, Shelf right) {
        if (left.count != right.count) {
            return false;
        }
        for (int place = 0; place < left.count; place++) {
            if (left.thingAt(place) != right.thingAt(place)) {
                return false;
            }
        }
        return true;
    }

    private static String textBehind(Shelf shelf, int start) {
        StringBuilder text = new StringBuilder();
        for (int place = start; place < shelf.count; place++) {
            appendBlankBehindFirst(text, place - start);
            appendThing(text, shelf.thingAt(place));
        }
        return text.toString();
    }

    private static void appendBlankBehindFirst(StringBuilder text, int written) {
        if (written > 0) {
            text.append(' ');
        }
    }

    private static void appendThing(StringBuilder text, int thing) {
        if (thing == NOTHING) {
            text.append('-');
        } else {
            text.append(thing);
        }
    }

    private int countThings() {
        int all = 0;
        for (int number = 0; number < SHELVES; number++) {
            all += shelves[number].count;
        }
        return all;
    }

    private int countNothings() {
        int all = 0;
        for (int number = 0; number < SHELVES; number++) {
            all += shelves[number].countOf(NOTHING);
        }
        return all;
    }

    private int countWalks() {
        int all = 0;
        for (int number = 0; number < WALKS; number++) {
            all += oneIf(walks[number].isMade);
        }
        return all;
    }

    private int countStaleWalks() {
        int all = 0;
        for (int number = 0; number < WALKS; number++) {
            all += oneIf(walks[number].isMade && walks[number].isStale());
        }
        return all;
    }

    // ---- what isSound() looks at

    private boolean giveTheSame(int number, int how, int otherHow) {
        Shelf shelf = shelves[number];
        probe.begin(shelf, number, how);
        otherProbe.begin(shelf, number, otherHow);
        int steps = 0;
        while (steps < ROOM && probe.hasMore() && otherProbe.hasMore()) {
            if (probe.give() != otherProbe.give()) {
                return false;
            }
            steps++;
        }
        return steps == shelf.count && !probe.hasMore() && !otherProbe.hasMore();
    }

    private boolean isItsList(int number) {
        probe.begin(shelves[number], number, ENUMERATION);
        listRest(probe, probeList);
        return haveTheSame(probeList, shelves[number]);
    }

    private boolean isItsListBehindOneStep(int number) {
        Shelf shelf = shelves[number];
        if (shelf.count == 0) {
            return true;
        }
        probe.begin(shelf, number, ENUMERATION);
        int ahead = probe.give();
        listRest(probe, probeList);
        probeList.layAhead(0, ahead);
        return haveTheSame(probeList, shelf);
    }

    /** What kinds of SHELVES differ in. */
    private enum Kind {
        ROW(true, true, false),
        RISING(false, false, true),
        KEPT(false, true, true),
        QUEUE(false, false, false),
        TABLE(false, false, false);

        final boolean hasPlaces;
        final boolean takesNothings;
        final boolean hasEachOnce;

        Kind(boolean hasPlaces, boolean takesNothings, boolean hasEachOnce) {
            this.hasPlaces = hasPlaces;
            this.takesNothings = takesNothings;
            this.hasEachOnce = hasEachOnce;
        }
    }

    /** What lies on one SHELF in SEQUENCE, and how often it was SHIFTED and TURNED. */
    private static final class Shelf {
        final Kind kind;
        final int[] things = new int[ROOM];
        int count;
        int shifts;
        int turns;

        Shelf(Kind kind) {
            this.kind = kind;
        }

        boolean isOfTable() {
            return kind == Kind.TABLE;
        }

        boolean takesIn(int thing) {
            return thing != NOTHING || kind.takesNothings;
        }

        int thingAt(int place) {
            return place >= 0 && place < count ? things[place] : NONE;
        }

        int firstPlace(int thing) {
            for (int place = 0; place < count; place++) {
                if (things[place] == thing) {
                    return place;
                }
            }
            return NONE;
        }

        int lastPlace(int thing) {
            for (int place = count - 1; place >= 0; place--) {
                if (things[place] == thing) {
                    return place;
                }
            }
            return NONE;
        }

        boolean holds(int thing) {
            return firstPlace(thing) != NONE;
        }

        int countOf(int thing) {
            int found = 0;
            for (int place = 0; place < count; place++) {
                if (things[place] == thing) {
                    found++;
                }
            }
            return found;
        }

        int risingPlace(int thing) {
            int place = 0;
            while (place < count && things[place] < thing) {
                place++;
            }
            return place;
        }

        /** PUTS one; tells whether something is otherwise then. */
        boolean layDown(int thing) {
            if (kind.hasEachOnce && holds(thing)) {
                return false;
            }
            return layAhead(kind == Kind.RISING ? risingPlace(thing) : count, thing);
        }

        boolean layAhead(int place, int thing) {
            if (place < 0 || place > count || count >= ROOM) {
                return false;
            }
            for (int i = count; i > place; i--) {
                things[i] = things[i - 1];
            }
            things[place] = thing;
            count++;
            shifts++;
            return true;
        }

        int lift(int place) {
            if (place < 0 || place >= count) {
                return NONE;
            }
            int lifted = things[place];
            count--;
            for (int i = place; i < count; i++) {
                things[i] = things[i + 1];
            }
            shifts++;
            return lifted;
        }

        void liftAll() {
            if (count > 0) {
                count = 0;
                shifts++;
            }
        }

        /** Lays another one on a PLACE; answers what lay there. */
        int exchange(int place, int thing) {
            if (place < 0 || place >= count) {
                return NONE;
            }
            int was = things[place];
            things[place] = thing;
            return was;
        }

        void reverse(int from, int to) {
            int left = from;
            int right = to - 1;
            while (left < right) {
                exchange(left, exchange(right, thingAt(left)));
                left++;
                right--;
            }
        }

        void moveOn(int by) {
            reverse(0, count);
            reverse(0, by);
            reverse(by, count);
        }

        /** A LIST that is made anew is SHIFTED also if it has the same as before. */
        void becomeListOf(Shelf from, int start) {
            int length = 0;
            for (int place = start; place < from.count && length < ROOM; place++) {
                things[length] = from.thingAt(place);
                length++;
            }
            count = length;
            shifts++;
        }

        boolean rises() {
            for (int place = 1; place < count; place++) {
                if (things[place] <= things[place - 1]) {
                    return false;
                }
            }
            return true;
        }

        boolean hasEachOnce() {
            for (int place = 0; place < count; place++) {
                if (firstPlace(things[place]) != place) {
                    return false;
                }
            }
            return true;
        }
    }

    /** One WALK: its SHELF, its HOW, and how far it went. */
    private static final class Walk {
        boolean isMade;
        Shelf over;
        int shelf;
        int how;
        int given;
        private int takenOut;
        private int shiftsSeen;
        private int turnsSeen;
        private boolean hasLast;

        Walk(Shelf over) {
            this.over = over;
        }

        void begin(Shelf over, int shelf, int how) {
            this.over = over;
            this.shelf = shelf;
            this.how = how;
            isMade = true;
            given = 0;
            takenOut = 0;
            shiftsSeen = over.shifts;
            turnsSeen = over.turns;
            hasLast = false;
        }

        boolean isStale() {
            return over.shifts != shiftsSeen;
        }

        /** How many lie ahead of the next one. */
        int ahead() {
            return given - takenOut;
        }

        boolean hasMore() {
            return !isStale() && ahead() < over.count;
        }

        boolean canGiveAll() {
            return !isStale() && how != ITERATOR;
        }

        boolean canTakeOut() {
            return hasLast && over.turns == turnsSeen;
        }

        int give() {
            int thing = over.thingAt(ahead());
            given++;
            hasLast = true;
            turnsSeen = over.turns;
            return thing;
        }

        int giveUpTo(int many) {
            int gave = 0;
            while (gave < many && hasMore()) {
                give();
                gave++;
            }
            return gave;
        }

        void tookOut() {
            takenOut++;
            hasLast = false;
            shiftsSeen = over.shifts;
        }
    }
}
