import java.util.function.Consumer;

/** Promises 9 to 12 at their edges: JUMPERS, how HIGH they are, what TIRES them, what they GAIN. */
public final class EdgesOfJumpers {
    private static final Cases c = new Cases();
    private static final String[] NAMES = {"JUMPER", "PROP", "LOCK", "TOWER", "GIANT", "ROOKIE", "FLANKER"};

    public static void main(String[] args) {
        jumper();
        jumperFull();
        of();
        highOfPlainOnes();
        highOfTallOnes();
        highByThrow();
        tires();
        where();
        change();
        changeAlone();
        gains();
        gainsOfKinds();
        c.end(9, 12);
    }

    private static void jumper() {
        c.promise(9);
        c.ends("kind", States.BUSY, (x, v) -> x.jumper(v, 50), 0, 6, 6, 6);
        c.ends("tall", States.BUSY, (x, v) -> x.jumper(2, v), 0, 6, 99, 6);
        c.answers("the first one is 0", States.NEW, x -> x.jumper(0, 50), 0);
        c.test("a new one is as told, not TIRED, has none WON or LOST, is in no PLACE", () -> {
            LineCalls x = Cases.made(States.BUSY);
            int j = x.jumper(6, 99);
            int[] due = {6, 99, 0, 0, 0, 49 + 27, 2, -1};
            for (int what = 0; what < 8; what++) {
                c.due(x.of(j, what), due[what]);
            }
        });
        c.test("a new one at its least", () -> {
            LineCalls x = new LineCalls();
            int j = x.jumper(0, 0);
            int[] due = {0, 0, 0, 0, 0, 0, 5, -1};
            for (int what = 0; what < 8; what++) {
                c.due(x.of(j, what), due[what]);
            }
        });
        c.test("the others stay as they were", () -> {
            LineCalls x = Cases.made(States.BUSY);
            x.jumper(1, 1);
            c.due(x.of(5, 0), 3);
            c.due(x.of(5, 1), 20);
            c.due(x.of(0, 3), 4);
            c.due(x.place(6, 0), 4);
            c.due(x.count(1), 7);
        });
        c.test("a number given again behind undo() begins anew", () -> {
            LineCalls x = new LineCalls();
            x.image();
            x.jumper(1, 80);
            x.change(0, 2, 70);
            x.change(0, 3, 60);
            x.change(0, 4, 50);
            x.undo();
            c.due(x.jumper(2, 10), 0);
            int[] due = {2, 10, 0, 0, 0, 20, 4, -1};
            for (int what = 0; what < 8; what++) {
                c.due(x.of(0, what), due[what]);
            }
        });
    }

    private static void jumperFull() {
        Consumer<LineCalls> seven = x -> {
            for (int j = 0; j < 7; j++) {
                x.jumper(0, 50);
            }
        };
        c.answers("the 8th is allowed: 7", seven, x -> x.jumper(0, 50), 7);
        c.refused("the 9th is FULL", States.CROWD, x -> x.jumper(0, 50), Cases.FULL);
        c.refused("when full, a kind of 7 is BEYOND first", States.CROWD, x -> x.jumper(7, 50), Cases.BEYOND);
        c.refused("when full, a kind of -1 is BEYOND first", States.CROWD, x -> x.jumper(-1, 50), Cases.BEYOND);
        c.refused("when full, tall 100 is BEYOND first", States.CROWD, x -> x.jumper(0, 100), Cases.BEYOND);
        c.refused("when full, tall -1 is BEYOND first", States.CROWD, x -> x.jumper(0, -1), Cases.BEYOND);
        c.answers("full by a TEXT is full too", x -> {
            seven.accept(x);
            States.read(x, "lock");
        }, x -> x.jumper(0, 50), Cases.FULL);
        c.answers("behind undo() there is room again", x -> {
            seven.accept(x);
            x.image();
            x.jumper(0, 50);
            x.undo();
        }, x -> x.jumper(0, 50), 7);
    }

    private static void of() {
        c.promise(10);
        c.ends("jumper (of six)", States.BUSY, (x, v) -> x.of(v, 1), 0, 60, 5, 20);
        c.ends("jumper (of eight)", States.CROWD, (x, v) -> x.of(v, 7), 0, 0, 7, -1);
        c.ends("what", States.BUSY, (x, v) -> x.of(2, v), 0, 4, 7, 5);
        c.refused("jumper 0 is refused while there are none", States.NEW, x -> x.of(0, 0), Cases.BEYOND);
        c.refused("jumper -1 (nobody) is refused while there are none", States.NEW, x -> x.of(-1, 7), Cases.BEYOND);
        c.refused("jumper and what both beyond count once", States.BUSY, x -> x.of(6, 8), Cases.BEYOND);
        int[] giant = {4, 48, 8, 1, 0, 48 - 2 + 15 - 2 + 10, 8, 5};
        for (int what = 0; what < 8; what++) {
            int asked = what;
            c.leaves("what " + what + " of the GIANT, and nothing changes", States.BUSY, x -> x.of(2, asked), giant[what]);
        }
    }

    private static Consumer<LineCalls> one(int kind, int tall, int tired) {
        return x -> {
            x.jumper(kind, tall);
            x.change(0, 2, tired);
        };
    }

    private static void high(int kind, int tall, int tired, int wind, int wet, int due) {
        c.answers("HIGH of a " + NAMES[kind] + ", TALL " + tall + ", TIRED " + tired + ", WIND " + wind + ", WET " + wet,
            one(kind, tall, tired).andThen(x -> {
                x.set(0, wind);
                x.set(1, wet);
            }), x -> x.of(0, 5), due);
    }

    private static void highOfPlainOnes() {
        high(Cases.JUMPER, 99, 0, 0, 0, 99);
        high(Cases.JUMPER, 0, 0, 0, 0, 0);
        // A fourth of TIRED is cut.
        high(Cases.JUMPER, 50, 3, 0, 0, 50);
        high(Cases.JUMPER, 50, 4, 0, 0, 49);
        high(Cases.JUMPER, 50, 7, 0, 0, 49);
        high(Cases.JUMPER, 50, 8, 0, 0, 48);
        high(Cases.JUMPER, 50, 99, 0, 0, 26);
        // 0 at least.
        high(Cases.JUMPER, 25, 99, 0, 0, 1);
        high(Cases.JUMPER, 24, 99, 0, 0, 0);
        high(Cases.JUMPER, 23, 99, 0, 0, 0);
        high(Cases.JUMPER, 0, 99, 0, 0, 0);
        high(Cases.JUMPER, 50, 0, 9, 9, 50);
        // Half of a JUMPER is cut.
        high(Cases.PROP, 0, 0, 0, 0, 0);
        high(Cases.PROP, 1, 0, 0, 0, 0);
        high(Cases.PROP, 2, 0, 0, 0, 1);
        high(Cases.PROP, 99, 0, 0, 0, 49);
        high(Cases.PROP, 50, 4, 0, 0, 24);
        high(Cases.PROP, 23, 99, 9, 9, 0);
        high(Cases.FLANKER, 0, 0, 0, 0, 30);
        high(Cases.FLANKER, 0, 0, 9, 9, 21);
        high(Cases.FLANKER, 1, 0, 0, 1, 29);
        high(Cases.FLANKER, 99, 0, 0, 0, 79);
        high(Cases.FLANKER, 0, 99, 0, 9, 21);
    }

    private static void highOfTallOnes() {
        high(Cases.LOCK, 0, 0, 0, 0, 10);
        high(Cases.LOCK, 99, 0, 9, 9, 109);
        // 0 at least is asked of the JUMPER, ahead of the 10 more.
        high(Cases.LOCK, 0, 99, 0, 0, 10);
        high(Cases.LOCK, 23, 99, 0, 0, 10);
        high(Cases.LOCK, 25, 99, 0, 0, 11);
        high(Cases.TOWER, 0, 0, 0, 0, 15);
        high(Cases.TOWER, 0, 0, 9, 9, 6);
        high(Cases.TOWER, 99, 0, 0, 0, 114);
        high(Cases.TOWER, 0, 99, 9, 0, 6);
        high(Cases.GIANT, 0, 0, 0, 0, 25);
        high(Cases.GIANT, 99, 0, 0, 0, 124);
        high(Cases.GIANT, 0, 0, 9, 9, 16);
        // 10 more, if TIRED is below 20.
        high(Cases.GIANT, 50, 19, 0, 0, 50 - 4 + 15 + 10);
        high(Cases.GIANT, 50, 20, 0, 0, 50 - 5 + 15);
        high(Cases.GIANT, 50, 21, 0, 0, 50 - 5 + 15);
        high(Cases.GIANT, 0, 99, 9, 9, 6);
        high(Cases.ROOKIE, 0, 0, 0, 0, 0);
        high(Cases.ROOKIE, 99, 0, 9, 9, 99);
        high(Cases.ROOKIE, 23, 99, 0, 0, 0);
    }

    private static void highByThrow() {
        for (int n = 0; n <= 7; n++) {
            int thrown = n;
            c.answers("HIGH of a ROOKIE when THROW is " + n, x -> {
                x.jumper(Cases.ROOKIE, 77);
                if (thrown > 0) {
                    x.go(thrown);
                }
            }, x -> x.of(0, 5), n % 2 == 1 ? 0 : 77);
        }
        c.answers("HIGH of a LOCK when THROW is odd is as ever", x -> {
            x.jumper(Cases.LOCK, 77);
            x.go(1);
        }, x -> x.of(0, 5), 87);
    }

    private static void tires() {
        int[] due = {5, 8, 4, 4, 8, 5, 2};
        for (int k = 0; k < 7; k++) {
            int kind = k;
            c.answers("TIRES of a " + NAMES[k] + ", WET 0", x -> x.jumper(kind, 50), x -> x.of(0, 6), due[k]);
            c.answers("TIRES of a " + NAMES[k] + ", WET 9, WIND 9", x -> {
                x.jumper(kind, 50);
                x.set(0, 9);
                x.set(1, 9);
            }, x -> x.of(0, 6), k == Cases.ROOKIE ? 14 : due[k]);
        }
    }

    private static void where() {
        c.answers("its PLACE is -1: none", States.BUSY, x -> x.of(3, 7), -1);
        c.answers("its PLACE is 0, the front", States.CROWD, x -> x.of(0, 7), 0);
        c.answers("its PLACE is 6, the rear", States.CROWD, x -> x.of(6, 7), 6);
        c.answers("its PLACE when another took it is -1", States.CROWD.andThen(x -> x.stand(6, 7)), x -> x.of(6, 7), -1);
        c.answers("its PLACE when it was sent away is -1", States.CROWD.andThen(x -> x.stand(0, -1)), x -> x.of(0, 7), -1);
    }

    private static void change() {
        c.promise(11);
        c.ends("jumper (of six)", States.BUSY, (x, v) -> x.change(v, 1, 7), 0, 60, 5, 20);
        c.ends("jumper (of eight)", States.CROWD, (x, v) -> x.change(v, 0, 6), 0, 0, 7, 0);
        c.ends("what", States.BUSY, (x, v) -> x.change(3, v, 1), 0, 5, 4, 5);
        c.ends("KIND", States.BUSY, (x, v) -> x.change(2, 0, v), 0, 4, 6, 4);
        c.ends("TALL", States.BUSY, (x, v) -> x.change(2, 1, v), 0, 48, 99, 48);
        c.ends("TIRED", States.BUSY, (x, v) -> x.change(2, 2, v), 0, 8, 99, 8);
        c.ends("WON", States.BUSY, (x, v) -> x.change(0, 3, v), 0, 4, 9999, 4);
        c.ends("LOST", States.BUSY, (x, v) -> x.change(3, 4, v), 0, 5, 9999, 5);
        c.refused("jumper 0 is refused while there are none", States.NEW, x -> x.change(0, 1, 1), Cases.BEYOND);
        c.refused("what 5 (HIGH) is no thing to change", States.BUSY, x -> x.change(0, 5, 9), Cases.BEYOND);
        c.refused("what 7 (its PLACE) is no thing to change", States.BUSY, x -> x.change(0, 7, 0), Cases.BEYOND);
        c.refused("KIND 9, which TALL could be, is refused", States.BUSY, x -> x.change(0, 0, 9), Cases.BEYOND);
        c.refused("TALL 100, which WON could be, is refused", States.BUSY, x -> x.change(0, 1, 100), Cases.BEYOND);
    }

    private static void changeAlone() {
        c.changes("KIND 0: no GIANT any more", States.BUSY, x -> x.change(2, 0, 0), 4,
            "jumper 2 kind=0", "jumper 2 high=46", "jumper 2 tires=5");
        c.changes("KIND 6", States.BUSY, x -> x.change(2, 0, 6), 4,
            "jumper 2 kind=6", "jumper 2 high=50", "jumper 2 tires=2");
        c.changes("TALL 0", States.BUSY, x -> x.change(2, 1, 0), 48,
            "jumper 2 tall=0", "jumper 2 high=23", "now 5=66");
        c.changes("TALL 99", States.BUSY, x -> x.change(2, 1, 99), 48, "jumper 2 tall=99", "jumper 2 high=120");
        c.changes("TIRED 0", States.BUSY, x -> x.change(2, 2, 0), 8, "jumper 2 tired=0", "jumper 2 high=71");
        c.changes("TIRED 99", States.BUSY, x -> x.change(2, 2, 99), 8,
            "jumper 2 tired=99", "jumper 2 high=37", "now 5=66");
        c.changes("WON 0", States.BUSY, x -> x.change(0, 3, 0), 4, "jumper 0 won=0", "count 3=1", "now 2=1");
        c.changes("WON 9999", States.BUSY, x -> x.change(0, 3, 9999), 4, "jumper 0 won=9999", "count 3=10000", "now 2=10000");
        c.changes("LOST 0", States.BUSY, x -> x.change(3, 4, 0), 5, "jumper 3 lost=0", "count 4=0", "now 3=0");
        c.changes("LOST 9999", States.BUSY, x -> x.change(3, 4, 9999), 5, "jumper 3 lost=9999", "count 4=9999", "now 3=9999");
    }

    private static void gains() {
        c.promise(12);
        c.ends("jumper (of six)", States.BUSY, (x, v) -> x.gains(v, 3), 0, 5, 5, 5);
        c.ends("jumper (of eight)", States.CROWD, (x, v) -> x.gains(v, 3), 0, 3, 7, 3);
        c.ends("place", States.BUSY, (x, v) -> x.gains(4, v), 0, 1, 6, 13);
        c.refused("jumper 0 is refused while there are none", States.NEW, x -> x.gains(0, 0), Cases.BEYOND);
        c.leaves("in a PLACE in which another stands, and nothing changes", States.BUSY, x -> x.gains(0, 6), 8);
        c.leaves("of one that is in no PLACE", States.BUSY, x -> x.gains(3, 6), 6);
    }

    private static void gain(int kind, int place, int wind, int due) {
        c.answers("a " + NAMES[kind] + " in PLACE " + place + ", WIND " + wind, x -> {
            x.jumper(kind, 50);
            x.set(0, wind);
            x.set(1, 9 - wind);
        }, x -> x.gains(0, place), due);
    }

    private static void gainsOfKinds() {
        gain(Cases.JUMPER, 0, 0, 0);
        gain(Cases.JUMPER, 6, 9, 6);
        gain(Cases.PROP, 0, 0, 1);
        gain(Cases.PROP, 6, 9, 1);
        gain(Cases.FLANKER, 0, 0, 1);
        gain(Cases.FLANKER, 6, 9, 13);
        gain(Cases.LOCK, 0, 0, 2);
        gain(Cases.LOCK, 6, 9, 8);
        gain(Cases.TOWER, 0, 0, 2);
        gain(Cases.TOWER, 6, 9, 8);
        gain(Cases.GIANT, 0, 0, 2);
        gain(Cases.GIANT, 0, 1, 1);
        gain(Cases.GIANT, 0, 2, 0);
        // 0 at least.
        gain(Cases.GIANT, 0, 3, 0);
        gain(Cases.GIANT, 0, 9, 0);
        gain(Cases.GIANT, 6, 0, 8);
        gain(Cases.GIANT, 6, 7, 1);
        gain(Cases.GIANT, 6, 8, 0);
        gain(Cases.GIANT, 6, 9, 0);
        gain(Cases.ROOKIE, 0, 0, 0);
        gain(Cases.ROOKIE, 6, 9, 6);
        c.answers("a ROOKIE when THROW is odd gains as ever", x -> {
            x.jumper(Cases.ROOKIE, 50);
            x.go(1);
        }, x -> x.gains(0, 6), 6);
    }
}
