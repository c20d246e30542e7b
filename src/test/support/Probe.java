import java.util.LinkedHashMap;
import java.util.Map;

/**
 * All that can be seen of an object, by names. It asks by calls that change the object, so this is its end;
 * an object and its twin are asked the same, and what differs then had differed before. It makes some 450 calls at most,
 * so that an object stays below the 512 for which the document speaks.
 */
final class Probe {
    private Probe() {
    }

    static Map<String, Long> all(LineCalls x) {
        Map<String, Long> seen = new LinkedHashMap<>();
        for (int which = -1; which <= 6; which++) {
            seen.put("status " + which, (long) x.status(which));
        }
        line(seen, "", x);
        for (int i = 0; i < 6; i++) {
            x.call(i, 999 - i);
        }
        for (int s = 0; s < 4; s++) {
            sheet(seen, s, x);
        }
        bytes(seen, x);
        int kept = x.undo();
        seen.put("undo", (long) kept);
        if (kept >= 0) {
            line(seen, "kept: ", x);
        }
        return seen;
    }

    private static void line(Map<String, Long> seen, String ahead, LineCalls x) {
        String[] ofPlace = {"who", "high", "read", "force"};
        for (int p = 0; p < 7; p++) {
            for (int what = 0; what < 4; what++) {
                seen.put(ahead + "place " + p + " " + ofPlace[what], (long) x.place(p, what));
            }
        }
        for (int i = 0; i < 6; i++) {
            seen.put(ahead + "list " + i, (long) x.listed(i));
        }
        String[] ofJumper = {"kind", "tall", "tired", "won", "lost", "high", "tires", "place"};
        for (int j = 0; j < x.count(1); j++) {
            for (int what = 0; what < 8; what++) {
                seen.put(ahead + "jumper " + j + " " + ofJumper[what], (long) x.of(j, what));
            }
        }
        for (int what = 0; what < 8; what++) {
            seen.put(ahead + "count " + what, (long) x.count(what));
        }
        for (int what = 0; what < 7; what++) {
            seen.put(ahead + "now " + what, (long) x.now(what));
        }
        for (int spot = 0; spot < 10; spot++) {
            seen.put(ahead + "spot " + spot, (long) x.as(spot, 0));
        }
        String[] settings = {"WIND", "WET", "CODE"};
        for (int what = 0; what < 3; what++) {
            int was = x.set(what, 0);
            x.set(what, was);
            seen.put(ahead + settings[what], (long) was);
        }
    }

    /** Its size, its first six and its last six numbers (those that can be CALLS), and how many bits it keeps. */
    private static void sheet(Map<String, Long> seen, int s, LineCalls x) {
        int size = size(s, x);
        String ahead = "sheet " + s + " ";
        seen.put(ahead + "size", (long) size);
        if (size < 0) {
            return;
        }
        for (int t = 0; t < 4; t++) {
            seen.put(ahead + "beside " + t, (long) x.copy(s, 0, t, 0, 0));
        }
        six(seen, ahead + "first ", s, x);
        if (size > 6) {
            x.copy(s, size - 6, s, 0, 6);
            six(seen, ahead + "last ", s, x);
        }
        if (size > 0) {
            // Of 8 bits this is 7, of 16 bits 263, of 32 bits no CALL.
            x.write(s, 0, 65536 + 256 + 7);
            six(seen, ahead + "bits ", s, x);
        }
    }

    private static int size(int s, LineCalls x) {
        int least = x.copy(s, 0, s, 0, 0);
        if (least < 0) {
            return least;
        }
        int beyond = 41;
        while (beyond - least > 1) {
            int middle = (least + beyond) / 2;
            if (x.copy(s, 0, s, 0, middle) == middle) {
                least = middle;
            } else {
                beyond = middle;
            }
        }
        return least;
    }

    private static void six(Map<String, Long> seen, String ahead, int s, LineCalls x) {
        seen.put(ahead + "loaded", (long) x.load(s));
        for (int i = 0; i < 6; i++) {
            seen.put(ahead + i, (long) x.listed(i));
        }
    }

    /** What THE TAPE tells. */
    private static void bytes(Map<String, Long> seen, LineCalls x) {
        seen.put("text", (long) x.text());
        seen.put("told: JUMPERS", (long) x.count(1));
        for (int i = 0; i < 6; i++) {
            seen.put("told: list " + i, (long) x.listed(i));
        }
        for (int p = 0; p < 7; p++) {
            seen.put("told: place " + p + " who", (long) x.place(p, 0));
            seen.put("told: place " + p + " high", (long) x.place(p, 1));
        }
        for (int what = 0; what < 3; what++) {
            seen.put("told: set " + what, (long) x.set(what, 0));
        }
    }
}
