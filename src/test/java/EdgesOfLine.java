/** Promises 1 to 8 at their edges: a new object, PLACES, THEIRS, settings, THE LIST, CODES. */
public final class EdgesOfLine {
    private static final Cases c = new Cases();

    public static void main(String[] args) {
        atFirst();
        alone();
        stand();
        standMoves();
        place();
        theirs();
        set();
        call();
        listed();
        says();
        saysByDigits();
        saysByOddsAndBits();
        c.end(1, 8);
    }

    private static void atFirst() {
        c.promise(1);
        c.answers("no JUMPERS", States.NEW, x -> x.count(1), 0);
        c.refused("no JUMPER 0", States.NEW, x -> x.of(0, 0), Cases.BEYOND);
        for (int p = 0; p < 7; p++) {
            int place = p;
            c.answers("nobody in PLACE " + p, States.NEW, x -> x.place(place, 0), -1);
            c.answers("THEIRS are 40 high in PLACE " + p, States.NEW, x -> x.place(place, 1), 40);
            c.answers("THEIRS READ 0 of PLACE " + p, States.NEW, x -> x.place(place, 2), 0);
        }
        for (int i = 0; i < 6; i++) {
            int at = i;
            c.answers("CALL " + i + " is 11 times its place", States.NEW, x -> x.listed(at), 11 * i);
        }
        String[] settings = {"WIND", "WET", "CODE"};
        for (int what = 0; what < 3; what++) {
            int asked = what;
            c.answers(settings[what] + " is 0", States.NEW, x -> x.set(asked, 1), 0);
        }
        c.answers("THROW is 0", States.NEW, x -> x.now(0), 0);
        c.answers("METRES are 0", States.NEW, x -> x.now(1), 0);
        c.answers("WON of all is 0", States.NEW, x -> x.now(2), 0);
        c.answers("LOST of all is 0", States.NEW, x -> x.now(3), 0);
        c.answers("z is 1", States.NEW, x -> x.count(6), 1);
        c.answers("THE TAPE has no bytes", States.NEW, x -> x.count(5), 0);
        c.answers("THE TAPE is empty: a TEXT ends too early at 0", States.NEW, LineCalls::text, -1);
        for (int spot = 0; spot < 10; spot++) {
            int asked = spot;
            c.refused("SPOT " + spot + " holds nothing", States.NEW, x -> x.as(asked, 0), Cases.MISSING);
        }
        for (int s = 0; s < 4; s++) {
            int asked = s;
            c.refused("SHEET " + s + " is MISSING", States.NEW, x -> x.load(asked), Cases.MISSING);
        }
        c.refused("no image to go back to", States.NEW, LineCalls::undo, Cases.NONE);
        c.answers("no image to tear", States.NEW, LineCalls::tear, 0);
        for (int which = -1; which < 7; which++) {
            int asked = which;
            c.answers("status " + which + " is 0", States.NEW, x -> x.status(asked), 0);
        }
    }

    private static void alone() {
        c.promise(1);
        c.test("what happens to another object changes nothing", () -> {
            LineCalls x = new LineCalls();
            States.BUSY.accept(new LineCalls());
            c.due(x.count(1), 0);
            c.due(x.place(1, 0), -1);
            c.due(x.listed(0), 0);
            c.due(x.count(5), 0);
            c.due(x.count(6), 1);
            c.due(x.status(-1), 0);
            c.due(x.load(0), Cases.MISSING);
            c.due(x.undo(), Cases.NONE);
        });
        c.test("an object made later is as at first", () -> {
            States.BUSY.accept(new LineCalls());
            LineCalls x = new LineCalls();
            c.due(x.count(1), 0);
            c.due(x.listed(4), 44);
            c.due(x.status(-1), 0);
        });
    }

    private static void stand() {
        c.promise(2);
        c.ends("place", States.BUSY, (x, v) -> x.stand(v, 3), 0, -1, 6, 4);
        c.ends("jumper (of six)", States.BUSY, (x, v) -> x.stand(1, v), -1, 0, 5, 0);
        c.ends("jumper (of eight)", States.CROWD, (x, v) -> x.stand(6, v), -1, 6, 7, 6);
        c.refused("jumper 0 is refused while there are none", States.NEW, x -> x.stand(0, 0), Cases.BEYOND);
        c.answers("nobody is allowed while there are none", States.NEW, x -> x.stand(0, -1), -1);
        c.refused("place and jumper both beyond count once", States.BUSY, x -> x.stand(7, 6), Cases.BEYOND);
        c.refused("nobody in no PLACE is refused", States.BUSY, x -> x.stand(-1, -1), Cases.BEYOND);
    }

    private static void standMoves() {
        c.changes("into an empty PLACE", States.BUSY, x -> x.stand(0, 5), -1,
            "place 0 who=5", "told: place 0 who=5", "jumper 5 place=0");
        c.changes("out of its PLACE into an empty one", States.BUSY, x -> x.stand(4, 4), -1,
            "place 4 who=4", "told: place 4 who=4", "place 6 who=-1", "told: place 6 who=-1", "jumper 4 place=4",
            "now 5=50");
        c.changes("out of the front", States.CROWD.andThen(x -> x.stand(5, -1)), x -> x.stand(5, 0), -1,
            "place 5 who=0", "told: place 5 who=0", "place 0 who=-1", "told: place 0 who=-1", "jumper 0 place=5",
            "now 5=124");
        c.changes("out of the rear", States.CROWD.andThen(x -> x.stand(1, -1)), x -> x.stand(1, 6), -1,
            "place 1 who=6", "told: place 1 who=6", "place 6 who=-1", "told: place 6 who=-1", "jumper 6 place=1",
            "now 5=63");
        c.changes("where another stands: that one comes to none", States.BUSY, x -> x.stand(1, 4), 0,
            "place 1 who=4", "told: place 1 who=4", "place 6 who=-1", "told: place 6 who=-1", "jumper 4 place=1",
            "jumper 0 place=-1", "now 5=34");
        c.leaves("where it stands already: itself stood there", States.BUSY, x -> x.stand(6, 4), 4);
        c.changes("nobody instead of one", States.BUSY, x -> x.stand(6, -1), 4,
            "place 6 who=-1", "told: place 6 who=-1", "jumper 4 place=-1", "now 5=34");
        c.leaves("nobody where nobody is", States.BUSY, x -> x.stand(0, -1), -1);
        c.leaves("nobody in one PLACE takes nobody from another", States.BUSY, x -> x.stand(4, -1), -1);
    }

    private static void place() {
        c.promise(3);
        c.ends("place", States.BUSY, (x, v) -> x.place(v, 1), 0, 41, 6, 40);
        c.ends("what", States.BUSY, (x, v) -> x.place(5, v), 0, 2, 3, 43);
        c.leaves("nobody there is -1", States.BUSY, x -> x.place(0, 0), -1);
        c.leaves("who stands there", States.BUSY, x -> x.place(6, 0), 4);
        c.leaves("how high", States.BUSY, x -> x.place(4, 1), 37);
        c.leaves("how well they READ", States.BUSY, x -> x.place(2, 2), 21);
        c.leaves("FORCE: a half of READ 21 is cut", States.BUSY, x -> x.place(2, 3), 50);
        c.answers("FORCE: a half of READ 1 is 0", x -> x.theirs(0, 2, 1), x -> x.place(0, 3), 40);
        c.answers("FORCE: a half of READ 2 is 1", x -> x.theirs(0, 2, 2), x -> x.place(0, 3), 41);
        c.test("FORCE at its most is 99 and 49", () -> {
            LineCalls x = new LineCalls();
            x.theirs(6, 1, 99);
            x.theirs(6, 2, 99);
            c.due(x.place(6, 3), 148);
        });
        c.answers("FORCE at its least is 0", x -> x.theirs(6, 1, 0), x -> x.place(6, 3), 0);
    }

    private static void theirs() {
        c.promise(4);
        c.ends("place", States.BUSY, (x, v) -> x.theirs(v, 1, 9), 0, 41, 6, 40);
        c.ends("what", States.BUSY, (x, v) -> x.theirs(2, v, 9), 1, 40, 2, 21);
        c.ends("v, how high,", States.BUSY, (x, v) -> x.theirs(4, 1, v), 0, 37, 99, 37);
        c.ends("v, how well they READ,", States.BUSY, (x, v) -> x.theirs(2, 2, v), 0, 21, 99, 21);
        c.changes("how high becomes 0, nothing else", States.BUSY, x -> x.theirs(4, 1, 0), 37,
            "place 4 high=0", "told: place 4 high=0", "place 4 force=0");
        c.changes("how high becomes 99, nothing else", States.BUSY, x -> x.theirs(4, 1, 99), 37,
            "place 4 high=99", "told: place 4 high=99", "place 4 force=99");
        c.changes("READ becomes 0, nothing else", States.BUSY, x -> x.theirs(2, 2, 0), 21,
            "place 2 read=0", "place 2 force=40");
        c.changes("READ becomes 99, nothing else", States.BUSY, x -> x.theirs(2, 2, 99), 21,
            "place 2 read=99", "place 2 force=89");
        c.changes("in the front PLACE", States.BUSY, x -> x.theirs(0, 1, 7), 41,
            "place 0 high=7", "told: place 0 high=7", "place 0 force=7");
        c.changes("in the rear PLACE", States.BUSY, x -> x.theirs(6, 2, 7), 0,
            "place 6 read=7", "place 6 force=43", "now 5=34");
    }

    private static void set() {
        c.promise(5);
        c.ends("what", States.BUSY, (x, v) -> x.set(v, 4), 0, 2, 2, 1);
        c.ends("WIND", States.BUSY, (x, v) -> x.set(0, v), 0, 2, 9, 2);
        c.ends("WET", States.BUSY, (x, v) -> x.set(1, v), 0, 3, 9, 3);
        c.ends("CODE", States.BUSY, (x, v) -> x.set(2, v), 0, 1, 4, 1);
        c.changes("WIND becomes 9: GIANT and TOWER are less high, nothing else", States.BUSY, x -> x.set(0, 9), 2,
            "WIND=9", "told: set 0=9", "jumper 2 high=62", "jumper 5 high=26");
        c.changes("WIND becomes 0", States.BUSY, x -> x.set(0, 0), 2,
            "WIND=0", "told: set 0=0", "jumper 2 high=71", "jumper 5 high=35");
        c.changes("WET becomes 9: FLANKER and ROOKIE, nothing else", States.BUSY, x -> x.set(1, 9), 3,
            "WET=9", "jumper 4 high=37", "jumper 3 tires=14", "now 5=34");
        c.changes("WET becomes 0", States.BUSY, x -> x.set(1, 0), 3,
            "WET=0", "jumper 4 high=46", "jumper 3 tires=5");
        c.changes("CODE becomes 4: which PLACES are said, nothing else", States.BUSY, x -> x.set(2, 4), 1,
            "CODE=4", "told: set 2=4", "now 4=3", "now 6=60");
        c.changes("CODE becomes 0", States.BUSY, x -> x.set(2, 0), 1, "CODE=0", "told: set 2=0", "now 4=1", "now 6=42");
    }

    private static void call() {
        c.promise(6);
        c.ends("i", States.BUSY, (x, v) -> x.call(v, 1), 0, 15, 5, 55);
        c.ends("v", States.BUSY, (x, v) -> x.call(2, v), 0, 321, 999, 321);
        c.changes("CALL 0 becomes 0, nothing else", States.BUSY, x -> x.call(0, 0), 15, "list 0=0", "now 6=77");
        c.changes("CALL 5 becomes 999, nothing else", States.BUSY, x -> x.call(5, 999), 55, "list 5=999", "now 6=69");
        c.leaves("a CALL becomes what it is", States.BUSY, x -> x.call(4, 905), 905);
    }

    private static void listed() {
        c.promise(7);
        c.ends("i", States.BUSY, (x, v) -> x.listed(v), 0, 15, 5, 55);
        c.leaves("CALL 4", States.BUSY, x -> x.listed(4), 905);
        c.answers("CALL 0 at its most", x -> x.call(0, 999), x -> x.listed(0), 999);
        c.answers("CALL 5 at its least", x -> x.call(5, 0), x -> x.listed(5), 0);
    }

    private static void says() {
        c.promise(8);
        c.ends("call", States.BUSY, (x, v) -> x.says(v, 4), 0, 0, 999, 1);
        c.ends("code", States.BUSY, (x, v) -> x.says(345, v), 0, 5, 4, 5);
        c.refused("call 1000 by code 5 counts once", States.BUSY, x -> x.says(1000, 5), Cases.BEYOND);
        c.leaves("a CALL that isn't in THE LIST, by a CODE that isn't set", States.BUSY, x -> x.says(499, 2), 4);
        c.test("every CALL by every CODE", () -> {
            for (int v = 0; v <= 999; v++) {
                LineCalls x = new LineCalls();
                String digits = String.format("%03d", v);
                int first = digits.charAt(0) - '0';
                int middle = digits.charAt(1) - '0';
                int last = digits.charAt(2) - '0';
                int bits = Integer.toBinaryString(v).replace("0", "").length();
                c.due(x.says(v, 0), last % 7);
                c.due(x.says(v, 1), (first + middle + last) % 7);
                c.due(x.says(v, 2), first % 7);
                c.due(x.says(v, 3), "13579".indexOf(last + '0') >= 0 ? 0 : "13579".indexOf(middle + '0') >= 0 ? 3 : 6);
                c.due(x.says(v, 4), bits % 7);
            }
        });
    }

    private static void said(String name, int call, int code, int place) {
        c.answers("CODE " + code + ": " + call + " says " + place + " (" + name + ")", States.NEW,
            x -> x.says(call, code), place);
    }

    private static void saysByDigits() {
        said("last digit 0", 990, 0, 0);
        said("last digit 6 is the last that counts as it is", 6, 0, 6);
        said("last digit 7 wraps around", 7, 0, 0);
        said("last digit 8 wraps around", 18, 0, 1);
        said("last digit 9 wraps around", 999, 0, 2);
        said("no digits but 0", 0, 1, 0);
        said("digits together 6", 123, 1, 6);
        said("digits together 7 wrap around", 124, 1, 0);
        said("digits together 13", 940, 1, 6);
        said("digits together 14 wrap around twice", 95, 1, 0);
        said("digits together 27, the most", 999, 1, 6);
        said("below 100: 0", 99, 2, 0);
        said("the least: 0", 0, 2, 0);
        said("first digit 1", 100, 2, 1);
        said("first digit 6", 699, 2, 6);
        said("first digit 7 wraps around", 700, 2, 0);
        said("first digit 9 wraps around", 999, 2, 2);
    }

    private static void saysByOddsAndBits() {
        said("last odd, middle even", 201, 3, 0);
        said("last odd counts ahead of middle odd", 219, 3, 0);
        said("last even, middle odd", 210, 3, 3);
        said("both even, first odd", 180, 3, 6);
        said("a middle digit that isn't there is even", 8, 3, 6);
        said("the least: both even", 0, 3, 6);
        said("the most: last odd", 999, 3, 0);
        said("last 0 is even", 990, 3, 3);
        said("no bit", 0, 4, 0);
        said("one bit", 512, 4, 1);
        said("six bits", 63, 4, 6);
        said("seven bits wrap around", 127, 4, 0);
        said("nine bits, the most, wrap around", 991, 4, 2);
        said("eight bits wrap around", 999, 4, 1);
    }
}
