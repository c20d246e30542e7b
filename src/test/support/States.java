import java.util.function.Consumer;

/** States from which cases begin, and short ways to them. */
final class States {
    private States() {
    }

    static final Consumer<LineCalls> NEW = x -> { };

    /**
     * All has begun. THROW 1, METRES 7 (JUMPER 2 has won one); WIND 2, WET 3, CODE 1.
     * PLACES: JUMPER 0 in 1, 1 in 3, 2 in 5, 4 in 6; 3 and 5 in none. THE LIST 15, 11, 321, 33, 905, 55 says
     * 6, 2, 6, 6, 0, 3, the next is 2. SPOTS 0 and 9 hold 3 and 2. SHEETS: 1, 2, 3 of 8 bits; 10, 20, 30, 40
     * of 16 bits; 5, 500 of 32 bits; the last is MISSING. THE TAPE is "call 3 123;wet 7".
     * THE image is of THROW 0.
     */
    static final Consumer<LineCalls> BUSY = x -> {
        x.jumper(Cases.LOCK, 60);
        x.jumper(Cases.PROP, 55);
        x.jumper(Cases.GIANT, 48);
        x.jumper(Cases.ROOKIE, 70);
        x.jumper(Cases.FLANKER, 33);
        x.stand(1, 0);
        x.stand(3, 1);
        x.stand(5, 2);
        x.hold(0, 3);
        x.hold(8, 0);
        x.theirs(0, 1, 41);
        x.seed(12);
        x.image();
        x.call(0, 15);
        x.go(1);
        x.jumper(Cases.TOWER, 20);
        x.stand(6, 4);
        x.theirs(4, 1, 37);
        x.theirs(2, 2, 21);
        x.set(0, 2);
        x.set(1, 3);
        x.set(2, 1);
        x.call(2, 321);
        x.call(4, 905);
        x.change(1, 2, 33);
        x.change(0, 3, 4);
        x.change(3, 4, 5);
        x.hold(8, -1);
        x.hold(9, 2);
        x.seed(4711);
        numbers(x, 0, 8, 1, 2, 3);
        numbers(x, 1, 16, 10, 20, 30, 40);
        numbers(x, 2, 32, 5, 500);
        feed(x, "call 3 123;wet 7");
        x.as(0, Cases.LOCK);
        x.stand(7, 0);
    };

    /** Eight JUMPERS of TALL 50 (each KIND, and a second JUMPER), in each PLACE and SPOT one; all else as at first. */
    static final Consumer<LineCalls> CROWD = x -> {
        for (int j = 0; j < 8; j++) {
            x.jumper(j % 7, 50);
        }
        for (int p = 0; p < 7; p++) {
            x.stand(p, p);
        }
        for (int spot = 0; spot < 10; spot++) {
            x.hold(spot, spot % 8);
        }
    };

    /** One JUMPER of a kind, and all six CALLS say its PLACE. */
    static Consumer<LineCalls> lone(int kind, int tall, int place) {
        return x -> {
            x.jumper(kind, tall);
            x.stand(place, 0);
            for (int i = 0; i < 6; i++) {
                x.call(i, place);
            }
        };
    }

    /** Each THROW goes to a FLANKER in a PLACE, is WON for ever, and gains 1 metre and twice the PLACE. */
    static Consumer<LineCalls> sure(int place) {
        return lone(Cases.FLANKER, 99, place).andThen(x -> x.theirs(place, 1, 0));
    }

    /** The same state behind n more THROWS. */
    static Consumer<LineCalls> thrown(Consumer<LineCalls> from, int n) {
        return x -> {
            from.accept(x);
            for (int left = n; left > 0; left -= 60) {
                x.go(Math.min(left, 60));
            }
        };
    }

    /** Bytes on THE TAPE, four by a call. */
    static void feed(LineCalls x, String bytes) {
        int at = 0;
        while (at < bytes.length()) {
            int n = Math.min(4, bytes.length() - at);
            int packed = 0;
            for (int i = 0; i < n; i++) {
                packed = packed << 8 | bytes.charAt(at + i) & 255;
            }
            x.feed(packed, n);
            at += n;
        }
    }

    static Consumer<LineCalls> fed(String bytes) {
        return x -> feed(x, bytes);
    }

    static int read(LineCalls x, String text) {
        feed(x, text);
        return x.text();
    }

    /** A sheet with these numbers. */
    static void numbers(LineCalls x, int s, int bits, int... row) {
        x.sheet(s, bits, row.length);
        for (int i = 0; i < row.length; i++) {
            x.write(s, i, row[i]);
        }
    }

    static Consumer<LineCalls> told(int s, int bits, int... row) {
        return x -> numbers(x, s, bits, row);
    }
}
