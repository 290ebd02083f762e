import java.util.ArrayList;
import java.util.List;

/**
 * Long runs of calls on Overwalks and on CollectionsModel side by side, by chance but the same
 * each time: every answer and every exception has to be the same, and digest() behind each call.
 */
public final class RandomRunsTest {
    private static final int RUNS = 6000;
    /** With a digest() behind each call an object gets twice as many: 512. */
    private static final int CALLS = 256;

    /** How often of 1000, the method, and a sign for each argument (see argument()). */
    private static final String[] KINDS = {
        "70 put st", "30 putAll snnnn", "25 take st", "6 clear s", "60 pair tt", "25 pour ss",
        "12 change rpt", "25 insert rpt", "20 remove rp", "12 turn r", "12 rotate ry",
        "12 swap rpp", "5 fill rt", "8 replace rtt", "10 copies rtm",
        "120 walk wsh", "120 next w", "25 more w", "90 takeOut w", "15 rest w", "20 keepRest wl",
        "12 keep ls", "5 drop w", "25 skip wm", "25 pourRest ws", "25 zip ww",
        "8 text s", "8 list s", "5 size s", "5 isEmpty s", "10 has st", "10 often st",
        "10 placeOf rtb", "15 disjoint ss", "10 end sb", "10 code s", "10 areAlike ss",
        "10 first sb", "10 valueOf t", "10 ofWalk wq", "15 house q", "5 knock", "5 isSound", "5 digest"
    };

    private static long seed = 20261118;

    private static final List<String[]> CHOICES = new ArrayList<>();

    public static void main(String[] args) {
        for (String kind : KINDS) {
            String[] parts = kind.split(" ", 2);
            for (int i = Integer.parseInt(parts[0]); i > 0; i--) {
                CHOICES.add(parts[1].split(" "));
            }
        }
        for (int run = 0; run < RUNS; run++) {
            if (!agrees(run)) {
                break;
            }
            Checks.due("run " + run, true, true);
        }
        Checks.end();
    }

    private static boolean agrees(int run) {
        SideBySide both = new SideBySide();
        // Few THINGS and few SHELVES make calls meet; other runs reach everywhere.
        int things = run % 3 == 0 ? 100 : 2 + below(8);
        int shelf = run % 4 == 0 ? below(11) : -1;
        for (int i = 0; i < CALLS; i++) {
            String[] kind = CHOICES.get(below(CHOICES.size()));
            Object[] arguments = new Object[kind.length == 1 ? 0 : kind[1].length()];
            for (int k = 0; k < arguments.length; k++) {
                arguments[k] = argument(kind[1].charAt(k), things, shelf);
            }
            if (!both.agreesOn(new SideBySide.Call(kind[0], arguments))) {
                return false;
            }
        }
        return true;
    }

    private static Object argument(char sign, int things, int shelf) {
        boolean isSeldom = below(40) == 0;
        switch (sign) {
            case 's':
                return isSeldom ? below(15) - 2 : shelf >= 0 && below(2) == 0 ? shelf : below(11);
            case 'r':
                return isSeldom ? below(15) - 2 : Checks.ROWS[below(6)];
            case 'l':
                return isSeldom ? below(15) - 2 : 8 + below(3);
            case 'w':
                return isSeldom ? below(9) - 1 : below(6);
            case 't':
                return isSeldom ? below(5) - 2 + 100 * below(2) : below(8) == 0 ? 100 : below(things);
            case 'n':
                return isSeldom ? below(5) - 2 + 100 * below(2) : below(4) == 0 ? -1 : below(things);
            case 'p':
                return isSeldom ? below(17) - 2 : below(6);
            case 'h':
                return isSeldom ? below(5) - 1 : below(8) == 0 ? 2 : below(2);
            case 'm':
                return isSeldom ? below(17) - 2 : below(4);
            case 'y':
                return below(43) - 21;
            case 'q':
                return below(8) - 1;
            default:
                return below(2) == 1;
        }
    }

    private static int below(int bound) {
        seed = seed * 6364136223846793005L + 1442695040888963407L;
        return (int) ((seed >>> 33) % bound);
    }
}
