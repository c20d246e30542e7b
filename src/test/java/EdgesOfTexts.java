import java.util.function.Consumer;

/** Promises 32 to 34 at their edges: THE TAPE and TEXTS. */
public final class EdgesOfTexts {
    private static final Cases c = new Cases();

    public static void main(String[] args) {
        feed();
        feedBytes();
        wipe();
        textAtAll();
        tokens();
        bytesOfTokens();
        numbers();
        longNumbers();
        items();
        jumperItems();
        places();
        ninth();
        nothingChanges();
        itemByItem();
        longest();
        c.end(32, 34);
    }

    private static String times(int n, String text) {
        return text.repeat(n);
    }

    private static Consumer<LineCalls> blanks(int n) {
        return States.fed(times(n, " "));
    }

    private static void feed() {
        c.promise(32);
        c.ends("n", States.BUSY, (x, v) -> x.feed(' ', v), 1, 17, 4, 20);
        c.refused("n -1 is refused", States.BUSY, x -> x.feed(65, -1), Cases.BEYOND);
        c.answers("1 behind 119 is 120: full", blanks(119), x -> x.feed(32, 1), 120);
        c.answers("4 behind 116 are 120: full", blanks(116), x -> x.feed(32, 4), 120);
        c.refused("1 behind 120 is FULL", blanks(120), x -> x.feed(32, 1), Cases.FULL);
        c.refused("2 behind 119 are FULL, none of them comes", blanks(119), x -> x.feed(32, 2), Cases.FULL);
        c.refused("4 behind 117 are FULL, none of them comes", blanks(117), x -> x.feed(32, 4), Cases.FULL);
        c.answers("3 behind 117 are 120", blanks(117), x -> x.feed(32, 3), 120);
        c.refused("0 behind 120 are BEYOND first", blanks(120), x -> x.feed(32, 0), Cases.BEYOND);
        c.refused("5 behind 120 are BEYOND first", blanks(120), x -> x.feed(32, 5), Cases.BEYOND);
        c.answers("when full and wiped there is room again", blanks(120).andThen(LineCalls::wipe), x -> x.feed(32, 4), 4);
        c.answers("when full and read there is room again", blanks(120).andThen(LineCalls::text), x -> x.feed(32, 4), 4);
        c.answers("behind undo() it is as full", x -> {
            x.image();
            blanks(120).accept(x);
            x.undo();
        }, x -> x.feed(32, 1), Cases.FULL);
    }

    private static void feedBytes() {
        c.test("4 bytes, the highest first", () -> {
            LineCalls x = new LineCalls();
            x.feed('w' << 24 | 'e' << 16 | 't' << 8 | '8', 4);
            c.due(x.text(), 1);
            c.due(x.set(1, 0), 8);
        });
        c.test("3 bytes, without the highest of the number", () -> {
            LineCalls x = new LineCalls();
            x.feed(0x7F000000 | 'w' << 16 | 'e' << 8 | 't', 3);
            x.feed(0x41424300 | '7', 1);
            c.due(x.text(), 1);
            c.due(x.set(1, 0), 7);
        });
        c.test("2 bytes", () -> {
            LineCalls x = new LineCalls();
            x.feed(-65536 | 'w' << 8 | 'e', 2);
            x.feed(0x12340000 | 't' << 8 | '6', 2);
            c.due(x.text(), 1);
            c.due(x.set(1, 0), 6);
        });
        c.answers("-1 is bytes of 255, which begin no TOKEN", x -> x.feed(-1, 4), LineCalls::text, -1);
        c.answers("the least int: 128, 0, 0, 0", x -> x.feed(Integer.MIN_VALUE, 4), x -> x.count(5), 4);
        c.changes("nothing else changes", States.BUSY, x -> x.feed('1', 1), 17, "count 5=17", "text=-16",
            "told: list 3=40", "told: set 1=3");
    }

    private static void wipe() {
        c.promise(33);
        c.answers("empty: 0", States.NEW, LineCalls::wipe, 0);
        c.answers("empty again: 0", blanks(3).andThen(LineCalls::wipe), LineCalls::wipe, 0);
        c.answers("one byte", blanks(1), LineCalls::wipe, 1);
        c.answers("full: 120", blanks(120), LineCalls::wipe, 120);
        c.answers("it is empty then", blanks(120).andThen(LineCalls::wipe), x -> x.count(5), 0);
        c.changes("nothing else changes", States.BUSY, LineCalls::wipe, 16, "count 5=0", "text=-1",
            "told: list 3=40", "told: set 1=3");
    }

    /** How many ITEMS a TEXT has, on a new object. */
    private static void has(String text, int items) {
        c.answers("\"" + shown(text) + "\" is " + items, States.fed(text), LineCalls::text, items);
    }

    /** A FAULT at a byte. */
    private static void fault(String text, int at) {
        c.answers("\"" + shown(text) + "\" has its FAULT at " + at, States.fed(text), LineCalls::text, -1 - at);
    }

    private static String shown(String text) {
        StringBuilder shown = new StringBuilder();
        for (char b : text.toCharArray()) {
            shown.append(b < 32 || b > 126 ? "<" + (int) b + ">" : "" + b);
        }
        return shown.toString();
    }

    private static void textAtAll() {
        c.promise(34);
        fault("", 0);
        fault(" ", 1);
        fault("   ", 3);
        fault(";", 0);
        fault("wet 1;", 6);
        fault("wet 1;  ", 8);
        fault("wet 1;;", 6);
        fault("wet 1 ; ;wet 2", 8);
        fault("; wet 1", 0);
        fault("wet 1 wet 2", 6);
        fault("wet 1 2", 6);
        has("wet 1", 1);
        has("  wet 1  ", 1);
        has("wet 1;wet 2", 2);
        has("wet 1 ; wet 2", 2);
    }

    private static void tokens() {
        has("wet9", 1);
        has("wet0;wind9;code4", 3);
        has("lock in6tall99", 1);
        has("theirs6 0", 1);
        fault("theirs60", 6);
        fault("theirs 60", 7);
        fault("wetwet 1", 0);
        fault("wets 1", 0);
        fault("we 1", 0);
        fault("w et 1", 0);
        fault("lockin 3", 0);
        fault("lock intall 3", 5);
        fault("lock in3 tal 5", 9);
        fault("lock talls 5", 5);
        fault("lock i 3", 5);
        fault("wet 1 0", 6);
        fault("in 3", 0);
        fault("tall 3", 0);
        fault("7", 0);
        fault("jumpers", 0);
        fault("jumpe", 0);
        fault("read 3 4", 0);
        fault("throw", 0);
    }

    private static void bytesOfTokens() {
        for (int b : new int[] {0, 9, 10, 13, 31, 33, 47, 58, 60, 64, 65, 87, 90, 91, 96, 123, 127, 128, 160, 255}) {
            fault("wet 1" + (char) b, 5);
            fault("" + (char) b + "wet 1", 0);
        }
        fault("wet" + (char) 96 + "1", 3);
        fault("wet" + (char) 123 + "1", 3);
        fault("wet 1" + (char) 47 + "2", 5);
        fault("wet 1" + (char) 58 + "2", 5);
        fault("WET 1", 0);
        fault("wEt 1", 0);
        fault("wet -1", 4);
        fault("wet +1", 4);
        fault("wet 1.0", 5);
        fault("wet 1,wet 2", 5);
        fault("wet #", 4);
        // Each of the letters a and z, and of the digits 0 and 9, belongs to its TOKEN.
        fault("weta 1", 0);
        fault("wetz 1", 0);
        fault("wet 09;wet 90", 11);
    }

    private static void numbers() {
        for (String word : new String[] {"wind", "wet"}) {
            has(word + " 0", 1);
            has(word + " 9", 1);
            fault(word + " 10", word.length() + 1);
            fault(word + " 999", word.length() + 1);
        }
        has("code 0", 1);
        has("code 4", 1);
        fault("code 5", 5);
        fault("code 44", 5);
        has("theirs 0 0", 1);
        has("theirs 6 99", 1);
        fault("theirs 7 99", 7);
        fault("theirs 6 100", 9);
        fault("theirs 7 100", 7);
        has("call 0 0", 1);
        has("call 5 999", 1);
        fault("call 6 999", 5);
        fault("call 5 1000", 7);
        fault("call 6 1000", 5);
        has("lock in 0", 1);
        has("lock in 6", 1);
        fault("lock in 7", 8);
        has("lock tall 0", 1);
        has("lock tall 99", 1);
        fault("lock tall 100", 10);
        fault("lock in 7 tall 100", 8);
        fault("lock in 6 tall 100", 15);
    }

    private static void longNumbers() {
        has("wet 000000000000000000000000000009", 1);
        has("call 05 0999", 1);
        fault("wet 00000000000000000000000000000010", 4);
        fault("call 5 9999999999999999999999999999999", 7);
        fault("call 5 1000000000000000000000000000000", 7);
        // These would be 1 or 0, if they wrapped around.
        fault("wet 256", 4);
        fault("wet 65537", 4);
        fault("wet 4294967296", 4);
        fault("wet 4294967297", 4);
        fault("wet 18446744073709551616", 4);
        fault("wet 18446744073709551617", 4);
        fault("call 4294967296 0", 5);
        fault("call 0 4294967296", 7);
    }

    private static void items() {
        fault("wet", 3);
        fault("wet ", 4);
        fault("wet;", 3);
        fault("wet wet", 4);
        fault("wind", 4);
        fault("wind;wet 1", 4);
        fault("code", 4);
        fault("code in", 5);
        fault("theirs", 6);
        fault("theirs 6", 8);
        fault("theirs 6 ", 9);
        fault("theirs 6;", 8);
        fault("theirs ;", 7);
        fault("theirs in", 7);
        fault("theirs 6 wet", 9);
        fault("theirs 6 6 6", 11);
        fault("call", 4);
        fault("call 5", 6);
        fault("call 5;", 6);
        fault("call 5 5 5", 9);
        fault("wet 1;wind", 10);
        fault("wet 1;wind x", 11);
        fault("wet 1;no 1", 6);
    }

    private static void jumperItems() {
        String[] words = {"jumper", "prop", "lock", "tower", "giant", "rookie", "flanker"};
        for (int k = 0; k < 7; k++) {
            int kind = k;
            c.test("\"" + words[k] + "\" is a new one of its KIND, TALL 50, in no PLACE", () -> {
                LineCalls x = new LineCalls();
                c.due(States.read(x, words[kind]), 1);
                int[] due = {kind, 50, 0, 0, 0};
                for (int what = 0; what < 5; what++) {
                    c.due(x.of(0, what), due[what]);
                }
                c.due(x.of(0, 7), -1);
            });
            c.test("\"" + words[k] + " in 6 tall 99\" is in that PLACE, so TALL", () -> {
                LineCalls x = new LineCalls();
                c.due(States.read(x, words[kind] + " in 6 tall 99"), 1);
                c.due(x.of(0, 0), kind);
                c.due(x.of(0, 1), 99);
                c.due(x.of(0, 7), 6);
            });
        }
        c.test("\"lock tall 0\" is in no PLACE", () -> {
            LineCalls x = new LineCalls();
            c.due(States.read(x, "lock tall 0"), 1);
            c.due(x.of(0, 1), 0);
            c.due(x.of(0, 7), -1);
        });
        c.test("\"lock in 0\" is 50 TALL", () -> {
            LineCalls x = new LineCalls();
            c.due(States.read(x, "lock in 0"), 1);
            c.due(x.of(0, 1), 50);
            c.due(x.of(0, 7), 0);
        });
        fault("lock in", 7);
        fault("lock in ", 8);
        fault("lock in;", 7);
        fault("lock in in 3", 8);
        fault("lock in tall 3", 8);
        fault("lock tall", 9);
        fault("lock tall ;", 10);
        fault("lock tall tall 3", 10);
        fault("lock tall in 3", 10);
        fault("lock tall 3 in 3", 12);
        fault("lock in 3 in 4", 10);
        fault("lock tall 3 tall 3", 12);
        fault("lock in 3 tall 3 in 4", 17);
        fault("lock 3", 5);
        fault("lock lock", 5);
        fault("lock in 3 4", 10);
        fault("lock tall 3 4", 12);
        fault("lock theirs 0 0", 5);
    }

    private static void places() {
        Consumer<LineCalls> stands = x -> {
            x.jumper(Cases.PROP, 50);
            x.stand(6, 0);
        };
        c.answers("in a PLACE in which one stands: FAULT at the NUMBER", stands.andThen(States.fed("lock in 6")), LineCalls::text, -9);
        c.answers("in a PLACE that was left", stands.andThen(x -> x.stand(6, -1)).andThen(States.fed("lock in 6")), LineCalls::text, 1);
        c.answers("in another PLACE", stands.andThen(States.fed("lock in 5")), LineCalls::text, 1);
        fault("lock in 0;prop in 0", 18);
        has("lock in 0;prop in 1", 2);
        has("lock in 0;prop in 1;prop in 2;prop in 3;prop in 4;prop in 5;prop in 6;lock", 8);
        fault("lock in 0;prop in 1;prop in 2;prop in 3;prop in 4;prop in 5;prop in 6;lock in 6", 78);
        c.test("a FAULT leaves the PLACE free", () -> {
            LineCalls x = new LineCalls();
            c.due(States.read(x, "lock in 3;x"), -11);
            c.due(x.place(3, 0), -1);
            c.due(States.read(x, "prop in 3"), 1);
            c.due(x.place(3, 0), 0);
            c.due(x.of(0, 0), Cases.PROP);
        });
    }

    private static void ninth() {
        Consumer<LineCalls> seven = x -> {
            for (int j = 0; j < 7; j++) {
                x.jumper(0, 50);
            }
        };
        c.answers("the WORD of an 8th JUMPER is allowed", seven.andThen(States.fed("wet 1;prop")), LineCalls::text, 2);
        c.answers("the WORD of a 9th JUMPER is a FAULT, its own", seven.andThen(States.fed("prop;wet 1;lock")), LineCalls::text, -1 - 11);
        c.answers("a 9th, when there are eight", States.CROWD.andThen(States.fed("jumper")), LineCalls::text, -1);
        c.answers("a 9th is a FAULT ahead of what stands behind it", States.CROWD.andThen(States.fed("giant in 9 tall x")), LineCalls::text, -1);
        c.answers("no JUMPER is needed for other ITEMS", States.CROWD.andThen(States.fed("wet 1;theirs 0 0")), LineCalls::text, 2);
        has("prop;prop;prop;prop;prop;prop;prop;prop", 8);
        fault("prop;prop;prop;prop;prop;prop;prop;prop;prop", 40);
        c.test("eight by a TEXT are numbered from 0 on", () -> {
            LineCalls x = new LineCalls();
            States.read(x, "prop;lock;prop;prop;prop;prop;prop;giant");
            c.due(x.count(1), 8);
            c.due(x.of(1, 0), Cases.LOCK);
            c.due(x.of(7, 0), Cases.GIANT);
        });
        c.test("a 9th leaves none of the TEXT's JUMPERS", () -> {
            LineCalls x = Cases.made(seven);
            c.due(States.read(x, "prop;lock"), -6);
            c.due(x.count(1), 7);
            c.due(x.jumper(4, 9), 7);
            c.due(x.of(7, 0), Cases.GIANT);
        });
    }

    private static void nothingChanges() {
        String[] faulty = {";x", ";lock in 1", ";prop in 0;theirs 0 3;code 3;wind 9;call 0 9;x", ";", " 5"};
        int[] at = {17, 25, 61, 17, 17};
        for (int i = 0; i < faulty.length; i++) {
            String more = faulty[i];
            c.changes("a FAULT in \"call 3 123;wet 7" + more + "\" changes nothing but THE TAPE",
                States.BUSY.andThen(States.fed(more)), LineCalls::text, -1 - at[i], "count 5=0", "text=-1");
        }
        c.test("a FAULT is no finding", () -> {
            LineCalls x = Cases.made(States.fed("lock in 9"));
            c.due(x.text(), -9);
            c.due(x.text(), -1);
            c.due(x.status(-1), 0);
        });
        c.test("behind a FAULT THE TAPE begins anew", () -> {
            LineCalls x = Cases.made(States.fed("wet 1;;"));
            c.due(x.text(), -7);
            c.due(x.count(5), 0);
            c.due(States.read(x, "wet 2"), 1);
            c.due(x.set(1, 0), 2);
        });
        c.test("a TEXT is read once", () -> {
            LineCalls x = Cases.made(States.fed("wet 2"));
            c.due(x.text(), 1);
            c.due(x.count(5), 0);
            c.due(x.text(), -1);
            c.due(x.set(1, 0), 2);
        });
    }

    private static void itemByItem() {
        c.changes("all that a TEXT tells is so, and nothing else", States.BUSY, LineCalls::text, 2,
            "list 3=123", "WET=7", "jumper 4 high=39", "jumper 3 tires=12", "now 5=34", "count 5=0", "text=-1",
            "told: list 3=40");
        c.changes("how high THEIRS are, not how they READ", States.BUSY.andThen(LineCalls::wipe).andThen(States.fed("theirs 2 99")),
            LineCalls::text, 1, "place 2 high=99", "place 2 force=109", "count 5=0", "text=-1");
        c.test("of two for the same the later counts", () -> {
            LineCalls x = new LineCalls();
            c.due(States.read(x, "wet 1;wet 2;call 0 7;call 0 8;code 4;code 3"), 6);
            c.due(x.set(1, 0), 2);
            c.due(x.listed(0), 8);
            c.due(x.set(2, 0), 3);
        });
        c.test("each ITEM at its most", () -> {
            LineCalls x = new LineCalls();
            c.due(States.read(x, "theirs 6 99;call 5 999;code 4;wind 9;wet 9"), 5);
            c.due(x.place(6, 1), 99);
            c.due(x.listed(5), 999);
            c.due(x.set(2, 0), 4);
            c.due(x.set(0, 0), 9);
            c.due(x.set(1, 0), 9);
        });
        c.test("each ITEM at its least", () -> {
            LineCalls x = new LineCalls();
            x.call(0, 9);
            x.set(0, 9);
            x.set(1, 9);
            x.set(2, 4);
            c.due(States.read(x, "theirs 0 0;call 0 0;code 0;wind 0;wet 0"), 5);
            c.due(x.place(0, 1), 0);
            c.due(x.listed(0), 0);
            c.due(x.set(2, 1), 0);
            c.due(x.set(0, 1), 0);
            c.due(x.set(1, 1), 0);
        });
    }

    private static void longest() {
        has(times(23, "wet1;") + "wet1", 24);
        has(times(23, "wet1;") + "wet1 ", 24);
        fault(times(24, "wet1;"), 120);
        fault(times(120, " "), 120);
        fault(times(120, ";"), 0);
        fault(times(120, "a"), 0);
        fault(times(120, "1"), 0);
        fault("wet " + times(116, "1"), 4);
        has("wet " + times(115, "0") + "1", 1);
        has(times(115, " ") + "wet 1", 1);
        fault(times(119, " ") + "x", 119);
        fault(times(117, " ") + "wet", 120);
        fault("wet 1;" + times(113, " ") + "?", 119);
    }
}
