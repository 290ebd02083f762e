import java.lang.reflect.Field;

/**
 * Promise 44 once more: no run of calls makes isSound() answer false, so this test breaks the
 * state behind the class's back. It alone knows the private fields (shelves, things, count).
 */
public final class BrokenStateTest {
    private static final int NOTHING = Checks.NOTHING;

    public static void main(String[] args) {
        Checks.sentence(44, "Returns whether all of this is so", () -> {
            for (int shelf : Checks.SHELVES) {
                Overwalks x = sample();
                lay(x, shelf, 1, 2, 3);
                Checks.due("sound with 1 2 3 on " + shelf, x.isSound(), true);
            }
        });
        Checks.sentence(44, "on RISING and KEYS each one is greater than the one ahead", () -> {
            isBroken("RISING falls", 3, 1, 3, 2);
            isBroken("RISING falls at the beginning", 3, 2, 1, 3);
            isBroken("RISING has one twice", 3, 1, 2, 2);
            isBroken("RISING falls at the end of twelve", 3, 1, 2, 3, 4, 5, 6, 7, 8, 9, 10, 12, 11);
            isBroken("KEYS fall", 6, 1, 3, 2);
            isBroken("KEYS fall at the beginning", 6, 3, 1, 2);
            isBroken("KEYS have one twice", 6, 1, 1, 2);
        });
        Checks.sentence(44, "on KEPT each lies there once", () -> {
            isBroken("KEPT has one twice", 4, 5, 1, 5);
            isBroken("KEPT has one twice side by side", 4, 5, 1, 1);
            isBroken("KEPT has NOTHING twice", 4, NOTHING, 1, NOTHING);
            isBroken("KEPT has the last of twelve twice", 4, 1, 2, 3, 4, 5, 6, 7, 8, 9, 10, 11, 1);
        });
        Checks.sentence(44, "KEYS and VALUES are as many", () -> {
            isBroken("KEYS are fewer than VALUES", 6, 1, 2);
            isBroken("VALUES are fewer than KEYS", 7, 1, 2);
            isBroken("KEYS are none", 6);
            isBroken("VALUES are none", 7);
        });
        Checks.end();
    }

    private static Overwalks sample() {
        Overwalks x = new Overwalks();
        for (int shelf = 0; shelf <= 10; shelf++) {
            Checks.lay(x, shelf, 4, 5, 6);
        }
        return x;
    }

    private static void isBroken(String how, int shelf, int... things) {
        Overwalks x = sample();
        long ahead = x.digest();
        lay(x, shelf, things);
        Checks.due(how + ": isSound()", x.isSound(), false);
        Checks.due(how + ": isSound() again", x.isSound(), false);
        lay(x, shelf, 4, 5, 6);
        Checks.due(how + ": mended", x.digest(), ahead);
        lay(x, shelf, things);
        Checks.due(how + ": digest() ends with 0", x.digest(), Checks.reckoned(x, false));
    }

    private static void lay(Overwalks x, int shelf, int... things) {
        try {
            Object broken = ((Object[]) field(x, "shelves").get(x))[shelf];
            int[] row = (int[]) field(broken, "things").get(broken);
            System.arraycopy(things, 0, row, 0, things.length);
            field(broken, "count").setInt(broken, things.length);
        } catch (ReflectiveOperationException e) {
            throw new IllegalStateException("the private fields bear other names", e);
        }
    }

    private static Field field(Object of, String name) throws ReflectiveOperationException {
        Field field = of.getClass().getDeclaredField(name);
        field.setAccessible(true);
        return field;
    }
}
