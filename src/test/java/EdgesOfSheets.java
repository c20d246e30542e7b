import java.util.Arrays;
import java.util.function.Consumer;

/** Promises 35 to 41 at their edges: SPOTS and SHEETS. */
public final class EdgesOfSheets {
    private static final Cases c = new Cases();
    private static final int[] ALL_BITS = {8, 16, 32};
    /** Sheet 0: 40 numbers, 100 to 139; sheet 1: 40 numbers, 200 to 239; sheet 2: none; all of 16 bits. Sheet 3 is MISSING. */
    private static final Consumer<LineCalls> LONG = x -> {
        x.sheet(0, 16, 40);
        x.sheet(1, 16, 40);
        x.sheet(2, 16, 0);
        for (int i = 0; i < 40; i++) {
            x.write(0, i, 100 + i);
            x.write(1, i, 200 + i);
        }
    };

    public static void main(String[] args) {
        hold();
        as();
        asKinds();
        sheet();
        sheetSizes();
        sheetAnew();
        write();
        writeBits();
        copy();
        copyOrder();
        copyRanges();
        copyOverItself();
        load();
        judge();
        c.end(35, 41);
    }

    private static void hold() {
        c.promise(35);
        c.ends("spot", States.BUSY, (x, v) -> x.hold(v, 1), 0, 1, 9, 1);
        c.ends("jumper (of six)", States.BUSY, (x, v) -> x.hold(4, v), -1, 1, 5, 1);
        c.ends("jumper (of eight)", States.CROWD, (x, v) -> x.hold(4, v), -1, 1, 7, 1);
        c.refused("jumper 0 is refused while there are none", States.NEW, x -> x.hold(0, 0), Cases.BEYOND);
        c.leaves("nothing is held while there are none", States.NEW, x -> x.hold(9, -1), 1);
        c.changes("the first SPOT holds another", States.BUSY, x -> x.hold(0, 5), 1, "spot 0=5");
        c.changes("the last SPOT holds another", States.BUSY, x -> x.hold(9, 0), 1, "spot 9=0");
        c.changes("an empty SPOT holds one", States.BUSY, x -> x.hold(4, 1), 1, "spot 4=1", "count 7=3");
        c.changes("one JUMPER in two SPOTS", States.BUSY, x -> x.hold(4, 3), 1, "spot 4=3", "count 7=3");
        c.changes("a SPOT holds nothing any more", States.BUSY, x -> x.hold(0, -1), 1, "spot 0=-1000006", "count 7=1");
        c.leaves("an empty SPOT holds nothing", States.BUSY, x -> x.hold(4, -1), 1);
        c.leaves("a SPOT holds what it holds", States.BUSY, x -> x.hold(0, 3), 1);
    }

    private static void as() {
        c.promise(36);
        c.ends("spot", States.BUSY, (x, v) -> x.as(v, 0), 0, 3, 9, 2);
        c.ends("kind", States.BUSY.andThen(x -> x.hold(0, 4)), (x, v) -> x.as(0, v), 0, 4, 6, 4);
        c.refused("a SPOT that holds nothing: MISSING", States.BUSY, x -> x.as(4, 0), Cases.MISSING);
        c.refused("a SPOT that holds nothing any more: MISSING", States.BUSY.andThen(x -> x.hold(0, -1)), x -> x.as(0, 0), Cases.MISSING);
        c.refused("an empty SPOT as a kind of 7: BEYOND first", States.BUSY, x -> x.as(4, 7), Cases.BEYOND);
        c.refused("an empty SPOT as a kind of -1: BEYOND first", States.BUSY, x -> x.as(4, -1), Cases.BEYOND);
        c.refused("an empty SPOT as a LOCK: MISSING, not KIND", States.BUSY, x -> x.as(4, 2), Cases.MISSING);
        c.refused("a ROOKIE as a LOCK: KIND, and nothing changes", States.BUSY, x -> x.as(0, 2), Cases.KIND);
        c.leaves("a GIANT as a LOCK, and nothing changes", States.BUSY, x -> x.as(9, 2), 2);
        c.answers("it counts of which KIND it is now", States.BUSY.andThen(x -> x.change(3, 0, Cases.TOWER)), x -> x.as(0, 2), 3);
        c.answers("it counts of which KIND it is no more", States.BUSY.andThen(x -> x.change(2, 0, Cases.PROP)), x -> x.as(9, 2), Cases.KIND);
        c.answers("JUMPER 0 is one that is held", States.CROWD, x -> x.as(0, 0), 0);
        c.answers("JUMPER 7 is one that is held", States.CROWD, x -> x.as(7, 0), 7);
    }

    private static void asKinds() {
        String[] names = {"JUMPER", "PROP", "LOCK", "TOWER", "GIANT", "ROOKIE", "FLANKER"};
        // For each KIND those as which it counts.
        String[] counts = {"0", "01", "02", "023", "0234", "05", "016"};
        for (int k = 0; k < 7; k++) {
            for (int a = 0; a < 7; a++) {
                int kind = k;
                int asked = a;
                boolean isSo = counts[k].indexOf('0' + a) >= 0;
                c.answers("a " + names[k] + " as a " + names[a] + (isSo ? "" : ": KIND"), x -> {
                    x.jumper(kind, 50);
                    x.hold(5, 0);
                }, x -> x.as(5, asked), isSo ? 0 : Cases.KIND);
            }
        }
    }

    private static void sheet() {
        c.promise(37);
        c.ends("s", States.BUSY, (x, v) -> x.sheet(v, 8, 5), 0, 5, 3, 5);
        for (int bits : new int[] {-32, -16, -8, -1, 1, 4, 7, 9, 15, 17, 24, 31, 33, 40, 64, Integer.MIN_VALUE, Integer.MAX_VALUE}) {
            c.refused(bits + " bits are BEYOND", States.BUSY, x -> x.sheet(0, bits, 5), Cases.BEYOND);
        }
        c.refused("no such sheet, n below 0: BEYOND first", States.BUSY, x -> x.sheet(4, 8, -1), Cases.BEYOND);
        c.refused("no such sheet (-1), n below 0: BEYOND first", States.BUSY, x -> x.sheet(-1, 0, -1), Cases.BEYOND);
        c.refused("other bits, n below 0: BEYOND first", States.BUSY, x -> x.sheet(0, 24, -1), Cases.BEYOND);
        c.refused("other bits, n above 40: BEYOND, once", States.BUSY, x -> x.sheet(0, 24, 41), Cases.BEYOND);
    }

    private static void sheetSizes() {
        for (int bits : ALL_BITS) {
            c.answers(bits + " bits: no numbers", States.BUSY, x -> x.sheet(0, bits, 0), 0);
            c.answers(bits + " bits: one number", States.BUSY, x -> x.sheet(0, bits, 1), 1);
            c.answers(bits + " bits: 40 numbers", States.BUSY, x -> x.sheet(0, bits, 40), 40);
            c.answers(bits + " bits: no numbers is not MISSING", x -> x.sheet(0, bits, 0), x -> x.load(0), 0);
            c.answers(bits + " bits: number 39 of 40 is there", x -> x.sheet(0, bits, 40), x -> x.write(0, 39, 1), 1);
        }
        for (int bits : new int[] {0, 8, 16, 32}) {
            c.refused(bits + " bits: n -1 is SIZE", States.BUSY, x -> x.sheet(0, bits, -1), Cases.SIZE);
            c.refused(bits + " bits: the least int is SIZE", States.BUSY, x -> x.sheet(0, bits, Integer.MIN_VALUE), Cases.SIZE);
            c.refused(bits + " bits: n 41 is BEYOND", States.BUSY, x -> x.sheet(0, bits, 41), Cases.BEYOND);
            c.refused(bits + " bits: the greatest int is BEYOND", States.BUSY, x -> x.sheet(0, bits, Integer.MAX_VALUE), Cases.BEYOND);
        }
        c.answers("0 bits, n 0: MISSING, 0", States.BUSY, x -> x.sheet(0, 0, 0), 0);
        c.answers("0 bits, n 1: MISSING, 0", States.BUSY, x -> x.sheet(0, 0, 1), 0);
        c.answers("0 bits, n 40: MISSING, 0", States.BUSY, x -> x.sheet(0, 0, 40), 0);
        c.refused("0 bits: it is MISSING then", States.BUSY.andThen(x -> x.sheet(0, 0, 40)), x -> x.load(0), Cases.MISSING);
        c.leaves("0 bits: what is MISSING stays so", States.BUSY, x -> x.sheet(3, 0, 7), 0);
    }

    private static void sheetAnew() {
        for (int bits : ALL_BITS) {
            c.test("made anew of " + bits + " bits all numbers are 0", () -> {
                LineCalls x = Cases.made(LONG);
                c.due(x.sheet(0, bits, 40), 40);
                for (int from = 0; from < 40; from += 4) {
                    x.copy(0, from, 0, 0, 4);
                    c.due(x.load(0), 6);
                    for (int i = 0; i < 4; i++) {
                        c.due(x.listed(i), 0);
                    }
                }
            });
        }
        c.test("made smaller and longer again, all are 0", () -> {
            LineCalls x = Cases.made(States.told(0, 8, 1, 2, 3, 4, 5, 6));
            x.sheet(0, 8, 1);
            c.due(x.load(0), 1);
            c.due(x.listed(0), 0);
            x.write(0, 0, 9);
            x.sheet(0, 8, 6);
            c.due(x.load(0), 6);
            for (int i = 0; i < 6; i++) {
                c.due(x.listed(i), 0);
            }
        });
        c.test("MISSING and there again, all are 0", () -> {
            LineCalls x = Cases.made(States.told(0, 8, 1, 2, 3));
            x.sheet(0, 0, 3);
            x.sheet(0, 8, 3);
            c.due(x.load(0), 3);
            c.due(x.listed(0), 0);
            c.due(x.listed(2), 0);
        });
        c.changes("another sheet comes, the others stay", States.BUSY, x -> x.sheet(3, 8, 0), 0,
            "sheet 3 size=0", "sheet 3 beside 0=0", "sheet 3 beside 1=-1000003", "sheet 3 beside 2=-1000003",
            "sheet 3 beside 3=0", "sheet 0 beside 3=0", "sheet 1 beside 3=-1000003", "sheet 2 beside 3=-1000003",
            "sheet 3 first loaded=0", "sheet 3 first 0=5", "sheet 3 first 1=500", "sheet 3 first 2=30",
            "sheet 3 first 3=40", "sheet 3 first 4=995", "sheet 3 first 5=994");
    }

    private static void write() {
        c.promise(38);
        c.ends("s", States.told(0, 8, 5).andThen(States.told(3, 8, 5)), (x, v) -> x.write(v, 0, 7), 0, 1, 3, 1);
        c.ends("i (of three)", States.BUSY, (x, v) -> x.write(0, v, 7), 0, 1, 2, 1);
        c.ends("i (of 40)", LONG, (x, v) -> x.write(1, v, 7), 0, 1, 39, 1);
        c.refused("i 0 of none is BEYOND", LONG, x -> x.write(2, 0, 7), Cases.BEYOND);
        for (int s = 0; s < 4; s++) {
            int asked = s;
            c.refused("sheet " + s + " is MISSING", States.NEW, x -> x.write(asked, 0, 7), Cases.MISSING);
        }
        c.refused("no such number of a MISSING sheet: MISSING first", States.BUSY, x -> x.write(3, 40, 7), Cases.MISSING);
        c.refused("number -1 of a MISSING sheet: MISSING first", States.BUSY, x -> x.write(3, -1, 7), Cases.MISSING);
        c.refused("no such sheet is BEYOND, not MISSING", States.NEW, x -> x.write(4, 0, 7), Cases.BEYOND);
        c.changes("the first number alone", States.BUSY, x -> x.write(1, 0, 11), 1, "sheet 1 first 0=11");
        c.changes("the last number alone", States.BUSY, x -> x.write(1, 3, 11), 1, "sheet 1 first 3=11", "sheet 1 bits 3=11",
            "sheet 2 first 3=11", "sheet 2 bits 3=11");
    }

    /** What a number is, when it can be a CALL; else -1 for one that isn't. */
    private static void becomes(int bits, int v, int due) {
        c.test(bits + " bits: " + v + (due < 0 ? " is no CALL" : " is " + due), () -> {
            LineCalls x = new LineCalls();
            x.sheet(2, bits, 1);
            c.due(x.write(2, 0, v), 1);
            c.due(x.load(2), due < 0 ? 0 : 1);
            if (due >= 0) {
                c.due(x.listed(0), due);
            }
        });
    }

    private static void writeBits() {
        becomes(8, 0, 0);
        becomes(8, 127, 127);
        becomes(8, 128, -1);
        becomes(8, 255, -1);
        becomes(8, 256, 0);
        becomes(8, 256 + 127, 127);
        becomes(8, -1, -1);
        becomes(8, -128, -1);
        becomes(8, -129, 127);
        becomes(8, 999, -1);
        becomes(8, Integer.MIN_VALUE, 0);
        becomes(8, Integer.MAX_VALUE, -1);
        becomes(16, 127, 127);
        becomes(16, 128, 128);
        becomes(16, 255, 255);
        becomes(16, 256, 256);
        becomes(16, 999, 999);
        becomes(16, 1000, -1);
        becomes(16, 32767, -1);
        becomes(16, 65535, -1);
        becomes(16, 65536, 0);
        becomes(16, 65536 + 999, 999);
        becomes(16, -65536 + 5, 5);
        becomes(16, Integer.MIN_VALUE, 0);
        becomes(32, 999, 999);
        becomes(32, 65536, -1);
        becomes(32, 65536 + 999, -1);
        becomes(32, -1, -1);
        becomes(32, Integer.MIN_VALUE, -1);
        becomes(32, Integer.MAX_VALUE, -1);
        c.test("9999 of 16 bits is as it is", () -> {
            LineCalls x = Cases.made(States.told(0, 16, 9999));
            x.jumper(0, 50);
            x.change(0, 3, 9999);
            c.due(x.judge(0), 0);
        });
        c.test("9999 of 8 bits is 15", () -> {
            LineCalls x = Cases.made(States.told(0, 8, 9999));
            c.due(x.load(0), 1);
            c.due(x.listed(0), 15);
        });
    }

    private static void copy() {
        c.promise(39);
        c.ends("s", LONG.andThen(States.told(3, 16, 7)), (x, v) -> x.copy(v, 0, 1, 0, 1), 0, 1, 3, 1);
        c.ends("t", LONG.andThen(States.told(3, 16, 7)), (x, v) -> x.copy(1, 0, v, 0, 1), 0, 1, 3, 1);
        c.ends("from", LONG, (x, v) -> x.copy(0, v, 1, 0, 2), 0, 2, 38, 2);
        c.ends("to", LONG, (x, v) -> x.copy(0, 0, 1, v, 2), 0, 2, 38, 2);
        c.ends("n", LONG, (x, v) -> x.copy(0, 0, 1, 0, v), 0, 0, 40, 40);
        c.ends("from, for no numbers,", LONG, (x, v) -> x.copy(0, v, 1, 0, 0), 0, 0, 40, 0);
        c.ends("to, for no numbers,", LONG, (x, v) -> x.copy(0, 0, 1, v, 0), 0, 0, 40, 0);
        c.ends("n, from 30 on,", LONG, (x, v) -> x.copy(0, 30, 1, 0, v), 0, 0, 10, 10);
        c.ends("n, to 30 on,", LONG, (x, v) -> x.copy(0, 0, 1, 30, v), 0, 0, 10, 10);
    }

    private static void copyOrder() {
        c.refused("one is MISSING: from it", LONG, x -> x.copy(3, 0, 0, 0, 1), Cases.MISSING);
        c.refused("one is MISSING: to it", LONG, x -> x.copy(0, 0, 3, 0, 1), Cases.MISSING);
        c.refused("both are MISSING", States.NEW, x -> x.copy(0, 0, 1, 0, 1), Cases.MISSING);
        c.refused("no such sheet to a MISSING one: BEYOND first", LONG, x -> x.copy(4, 0, 3, 0, 1), Cases.BEYOND);
        c.refused("a MISSING one to no such sheet: BEYOND first", LONG, x -> x.copy(3, 0, 4, 0, 1), Cases.BEYOND);
        c.refused("a MISSING one, n below 0: MISSING first", LONG, x -> x.copy(3, 0, 0, 0, -1), Cases.MISSING);
        c.refused("8 bits to 16: KIND", States.BUSY, x -> x.copy(0, 0, 1, 0, 1), Cases.KIND);
        c.refused("16 bits to 8: KIND", States.BUSY, x -> x.copy(1, 0, 0, 0, 1), Cases.KIND);
        c.refused("32 bits to 16: KIND", States.BUSY, x -> x.copy(2, 0, 1, 0, 1), Cases.KIND);
        c.refused("16 bits to 32: KIND", States.BUSY, x -> x.copy(1, 0, 2, 0, 1), Cases.KIND);
        c.refused("8 bits to 32: KIND", States.BUSY, x -> x.copy(0, 0, 2, 0, 1), Cases.KIND);
        c.refused("no numbers of other bits: KIND", States.BUSY, x -> x.copy(0, 0, 1, 0, 0), Cases.KIND);
        c.refused("other bits, n below 0: KIND first", States.BUSY, x -> x.copy(0, 0, 1, 0, -1), Cases.KIND);
        c.refused("other bits, not so many: KIND first", States.BUSY, x -> x.copy(0, 0, 1, 0, 40), Cases.KIND);
    }

    private static void copyRanges() {
        Consumer<LineCalls> both = States.told(0, 8, 1, 2, 3).andThen(States.told(1, 8, 4, 5));
        c.refused("the other one has not so many", both, x -> x.copy(0, 0, 1, 0, 3), Cases.BEYOND);
        c.refused("the one has not so many", both, x -> x.copy(1, 0, 0, 0, 3), Cases.BEYOND);
        c.refused("the one has not so many from there on", both, x -> x.copy(0, 2, 1, 0, 2), Cases.BEYOND);
        c.refused("the other one has not so many from there on", both, x -> x.copy(0, 0, 1, 1, 2), Cases.BEYOND);
        c.refused("from an empty one: one", LONG, x -> x.copy(2, 0, 0, 0, 1), Cases.BEYOND);
        c.refused("to an empty one: one", LONG, x -> x.copy(0, 0, 2, 0, 1), Cases.BEYOND);
        c.leaves("from an empty one: none", LONG, x -> x.copy(2, 0, 0, 0, 0), 0);
        c.leaves("to an empty one: none", LONG, x -> x.copy(0, 40, 2, 0, 0), 0);
        c.leaves("none to itself", LONG, x -> x.copy(0, 7, 0, 9, 0), 0);
        int most = Integer.MAX_VALUE;
        c.refused("from and n whose sum would wrap around", LONG, x -> x.copy(0, most, 1, 0, most), Cases.BEYOND);
        c.refused("to and n whose sum would wrap around", LONG, x -> x.copy(0, 0, 1, most, most), Cases.BEYOND);
        c.refused("from 1, the greatest n", LONG, x -> x.copy(0, 1, 1, 1, most), Cases.BEYOND);
        c.refused("all the least int", LONG, x -> x.copy(0, -most - 1, 1, -most - 1, -most - 1), Cases.BEYOND);
        c.refused("from below 0 with n 0", LONG, x -> x.copy(0, -1, 1, 0, 0), Cases.BEYOND);
        c.refused("to below 0 with n 0", LONG, x -> x.copy(0, 0, 1, -1, 0), Cases.BEYOND);
        c.changes("the last of one to the last of the other", both, x -> x.copy(0, 2, 1, 1, 1), 1,
            "sheet 1 first 1=3", "sheet 1 bits 1=3", "told: list 1=3");
        c.changes("the first of one to the first of the other", both, x -> x.copy(0, 0, 1, 0, 1), 1, "sheet 1 first 0=1");
    }

    private static void copied(String name, int from, int to, int n, int... due) {
        c.test(name, () -> {
            LineCalls x = Cases.made(States.told(3, 8, 1, 2, 3, 4, 5, 6));
            c.due(x.copy(3, from, 3, to, n), n);
            c.due(x.load(3), 6);
            for (int i = 0; i < 6; i++) {
                c.due(x.listed(i), due[i]);
            }
        });
    }

    private static void copyOverItself() {
        copied("to itself, further on: as they all were", 0, 1, 5, 1, 1, 2, 3, 4, 5);
        copied("to itself, further ahead: as they all were", 1, 0, 5, 2, 3, 4, 5, 6, 6);
        copied("to itself, by three", 0, 3, 3, 1, 2, 3, 1, 2, 3);
        copied("to itself, where they are", 0, 0, 6, 1, 2, 3, 4, 5, 6);
        copied("to itself, the first to the last", 0, 5, 1, 1, 2, 3, 4, 5, 1);
        c.test("40 numbers to another sheet", () -> {
            LineCalls x = Cases.made(LONG);
            c.due(x.copy(0, 0, 1, 0, 40), 40);
            for (int from = 0; from < 40; from += 5) {
                x.copy(1, from, 1, 0, 5);
                x.load(1);
                for (int i = 0; i < 5; i++) {
                    c.due(x.listed(i), 100 + from + i);
                }
            }
        });
    }

    private static void load() {
        c.promise(40);
        c.ends("s", States.told(0, 8, 5).andThen(States.told(3, 8, 5)), (x, v) -> x.load(v), 0, 1, 3, 1);
        for (int s = 0; s < 4; s++) {
            int asked = s;
            c.refused("sheet " + s + " is MISSING", States.NEW, x -> x.load(asked), Cases.MISSING);
        }
        c.leaves("no numbers: 0, nothing changes", LONG, x -> x.load(2), 0);
        c.changes("three numbers: the other CALLS stay", States.BUSY, x -> x.load(0), 3,
            "list 0=1", "list 1=2", "list 2=3", "now 6=79");
        c.answers("six numbers: 6", States.told(0, 8, 1, 2, 3, 4, 5, 6), x -> x.load(0), 6);
        c.answers("seven numbers: for the last there is no place", States.told(0, 8, 1, 2, 3, 4, 5, 6, 7), x -> x.load(0), 6);
        c.answers("40 numbers: 6", LONG, x -> x.load(0), 6);
        c.answers("40 numbers: the last CALL is the sixth", LONG.andThen(x -> x.load(0)), x -> x.listed(5), 105);
        c.answers("a seventh that is no CALL counts for nothing", States.told(0, 8, 1, 2, 3, 4, 5, 6, -1), x -> x.load(0), 6);
        c.changes("999 is a CALL, 1000 is none", States.told(0, 16, 999, 1000, 3), x -> x.load(0), 1,
            "list 0=999", "now 4=2", "now 6=62");
        c.changes("0 is a CALL, -1 is none", States.told(0, 16, 7, 0, -1, 3), x -> x.load(0), 2,
            "list 0=7", "list 1=0", "now 6=61");
        c.leaves("the first is none: 0, nothing changes", States.told(0, 16, 1000, 1), x -> x.load(0), 0);
        c.leaves("the first is below 0: 0, nothing changes", States.told(0, 32, Integer.MIN_VALUE, 1), x -> x.load(0), 0);
        c.leaves("the first is the greatest int: 0, nothing changes", States.told(0, 32, Integer.MAX_VALUE, 1), x -> x.load(0), 0);
        c.answers("the sixth is none: 5", States.told(0, 8, 1, 2, 3, 4, 5, -1), x -> x.load(0), 5);
    }

    private static void judge() {
        c.promise(41);
        c.ends("s", States.told(0, 8, 5).andThen(States.told(3, 8)), (x, v) -> x.judge(v), 0, 1, 3, 0);
        for (int s = 0; s < 4; s++) {
            int asked = s;
            c.refused("sheet " + s + " is MISSING", States.NEW, x -> x.judge(asked), Cases.MISSING);
        }
        // WON of BUSY's six: 4, 0, 1, 0, 0, 0.
        judged("no numbers: 0", 0);
        judged("fewer than JUMPERS, so: 0", 0, 4);
        judged("as many as JUMPERS, so: 0", 0, 4, 0, 1, 0, 0, 0);
        judged("the first is not so: 1", 1, 5, 0, 1, 0, 0, 0);
        judged("the last is not so: 6", 6, 4, 0, 1, 0, 0, 1);
        judged("two are not so: the first", 2, 4, 1, 2, 0, 0, 0);
        judged("one less is not so", 1, 3);
        judged("-1 is not any here", 2, 4, -1);
        judged("one more than JUMPERS is not so, even 0", 7, 4, 0, 1, 0, 0, 0, 0);
        c.answers("no JUMPERS: the first is not so", States.told(0, 8, 0), x -> x.judge(0), 1);
        c.answers("no JUMPERS, no numbers: 0", States.told(0, 8), x -> x.judge(0), 0);
        Consumer<LineCalls> most = States.CROWD.andThen(x -> {
            for (int j = 0; j < 8; j++) {
                x.change(j, 3, 9999);
            }
        });
        int[] row = new int[8];
        Arrays.fill(row, 9999);
        c.answers("eight of WON 9999: 0", most.andThen(States.told(1, 16, row)), x -> x.judge(1), 0);
        int[] longer = new int[40];
        Arrays.fill(longer, 9999);
        c.answers("40 numbers, eight JUMPERS: 9", most.andThen(States.told(1, 16, longer)), x -> x.judge(1), 9);
    }

    private static void judged(String name, int due, int... row) {
        c.leaves(name, States.BUSY.andThen(States.told(3, 16, row)), x -> x.judge(3), due);
    }
}
