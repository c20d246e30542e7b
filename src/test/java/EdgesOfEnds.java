import java.math.BigInteger;
import java.util.Arrays;
import java.util.function.Consumer;

/** Promises 25 to 31 at their edges: told ends, and calls by draws. */
public final class EdgesOfEnds {
    private static final Cases c = new Cases();
    /** By CODE 2 each THROW is WON and gains 13, by all others it is to nobody. */
    private static final Consumer<LineCalls> BY_FIRST = States.sure(6).andThen(x -> {
        for (int i = 0; i < 6; i++) {
            x.call(i, 610);
        }
    });
    /** Each THROW is to one that gains 5, and wins the first if it is 41 TALL or more. */
    private static final Consumer<LineCalls> ONE = States.lone(Cases.JUMPER, 10, 5);

    public static void main(String[] args) {
        codes();
        codesTold();
        fits();
        tall();
        kinds();
        mix();
        mixDraws();
        odds();
        oddsInAll();
        seed();
        c.end(25, 31);
    }

    /** A sheet of 40 numbers, any but the last. */
    private static int[] lastOf40(int last) {
        int[] row = new int[40];
        Arrays.fill(row, -1);
        row[39] = last;
        return row;
    }

    private interface OfSheet {
        int on(LineCalls x, int s, int jumper);
    }

    /** The findings of all four calls that ask a sheet for ends, in their order. */
    private static void sheetFindings(OfSheet act, long dueOfEmpty) {
        Consumer<LineCalls> empty = ONE.andThen(States.told(0, 32)).andThen(States.told(3, 8));
        c.ends("s", empty, (x, v) -> act.on(x, v, 0), 0, dueOfEmpty, 3, dueOfEmpty);
        for (int s = 0; s < 4; s++) {
            int asked = s;
            c.refused("sheet " + s + " is MISSING", ONE, x -> act.on(x, asked, 0), Cases.MISSING);
        }
        c.refused("a sheet of 0 bits is MISSING again", empty.andThen(x -> x.sheet(0, 0, 0)), x -> act.on(x, 0, 0), Cases.MISSING);
        c.refused("sheet 4 is BEYOND, not MISSING", States.BUSY, x -> act.on(x, 4, 0), Cases.BEYOND);
    }

    private static void jumperFindings(OfSheet act, long dueOfAny) {
        Consumer<LineCalls> any = States.CROWD.andThen(States.told(0, 8, -1));
        c.ends("jumper (of eight)", any, (x, v) -> act.on(x, 0, v), 0, dueOfAny, 7, dueOfAny);
        c.beyond("jumper (of six)", States.BUSY, (x, v) -> act.on(x, 0, v), -1, 6);
        c.refused("jumper 0 is refused while there are none", States.told(0, 8, -1), x -> act.on(x, 0, 0), Cases.BEYOND);
        c.refused("no such JUMPER in a MISSING sheet: MISSING first", States.BUSY, x -> act.on(x, 3, 6), Cases.MISSING);
        c.refused("no such JUMPER, no such sheet: BEYOND, once", States.BUSY, x -> act.on(x, 4, 6), Cases.BEYOND);
        c.refused("jumper -1 in a MISSING sheet: MISSING first", States.BUSY, x -> act.on(x, 3, -1), Cases.MISSING);
    }

    private static void codes() {
        c.promise(25);
        sheetFindings((x, s, jumper) -> x.codes(s), 31);
        c.leaves("no numbers: all CODES", BY_FIRST.andThen(States.told(0, 8)), x -> x.codes(0), 31);
        c.answers("no JUMPERS: all CODES that tell 0", States.told(1, 16, 0, 0, 0), x -> x.codes(1), 31);
        c.answers("METRES now are as told", States.BUSY.andThen(States.told(0, 8, 7)), x -> x.codes(0), 31);
        c.answers("METRES now are one less", States.BUSY.andThen(States.told(0, 8, 8)), x -> x.codes(0), 0);
        c.answers("METRES now are one more", States.BUSY.andThen(States.told(0, 8, 6)), x -> x.codes(0), 0);
        c.answers("METRES now are any", States.BUSY.andThen(States.told(0, 8, -1)), x -> x.codes(0), 31);
        c.answers("-2 is not any", States.BUSY.andThen(States.told(0, 8, -2)), x -> x.codes(0), 0);
        c.answers("255 of 8 bits is any", States.BUSY.andThen(States.told(0, 8, 255)), x -> x.codes(0), 31);
        c.answers("65535 of 16 bits is any", States.BUSY.andThen(States.told(0, 16, 65535)), x -> x.codes(0), 31);
        c.answers("-1 of 32 bits is any", States.BUSY.andThen(States.told(0, 32, -1)), x -> x.codes(0), 31);
        c.answers("65535 of 32 bits is not any", States.BUSY.andThen(States.told(0, 32, 65535)), x -> x.codes(0), 0);
        c.answers("255 of 16 bits is not any", States.BUSY.andThen(States.told(0, 16, 255)), x -> x.codes(0), 0);
        c.answers("263 of 8 bits is 7", States.BUSY.andThen(States.told(0, 8, 263)), x -> x.codes(0), 31);
    }

    private static void codesAre(String name, int due, int... row) {
        c.leaves(name, BY_FIRST.andThen(States.told(2, 16, row)), x -> x.codes(2), due);
    }

    private static void codesTold() {
        codesAre("the second number is METRES behind one THROW", 4, 0, 13);
        codesAre("one more: none", 0, 0, 14);
        codesAre("one less: none", 0, 0, 12);
        codesAre("all others but CODE 2", 27, 0, 0);
        codesAre("any, then behind two THROWS", 4, -1, -1, 26);
        codesAre("any between", 4, 0, -1, 26);
        codesAre("the last is not so: none", 0, 0, 13, 27);
        codesAre("the first is not so: none", 0, 1, 13, 26);
        codesAre("all any: all CODES", 31, -1, -1, -1);
        codesAre("40 numbers tell of 39 THROWS", 4, lastOf40(39 * 13));
        codesAre("40 numbers, the last one more: none", 0, lastOf40(39 * 13 + 1));
        codesAre("40 numbers, the last of 40 THROWS: none", 0, lastOf40(40 * 13));
        codesAre("40 numbers, the last 0: all others", 27, lastOf40(0));
        codesAre("40 numbers, all any: all CODES", 31, lastOf40(-1));
        c.leaves("the CODE that is set counts as each", BY_FIRST.andThen(x -> x.set(2, 2)).andThen(States.told(2, 16, 0, 0)),
            x -> x.codes(2), 27);
        c.leaves("CODE 4, the last, alone", States.sure(6).andThen(x -> x.call(0, 63)).andThen(States.told(0, 8, 0, 13)),
            x -> x.codes(0), 16);
        c.leaves("CODE 0, the first, alone", States.sure(6).andThen(x -> x.call(0, 16)).andThen(States.told(0, 8, 0, 13)),
            x -> x.codes(0), 1);
    }

    private static void fitting(String name, int theirs, int due, int... row) {
        c.leaves(name, ONE.andThen(x -> x.theirs(5, 1, theirs)).andThen(States.told(1, 32, row)), x -> x.fits(1, 0), due);
    }

    private static void fits() {
        c.promise(26);
        sheetFindings((x, s, jumper) -> x.fits(s, jumper), 100);
        jumperFindings((x, s, jumper) -> x.fits(s, jumper), 100);
        fitting("no numbers: all 100", 40, 100);
        fitting("any: all 100", 40, 100, -1, -1);
        fitting("METRES now are not so: 0", 40, 0, 1);
        fitting("41 to 99 win", 40, 59, 0, 5);
        fitting("0 to 40 lose", 40, 41, 0, 0);
        fitting("99 alone wins", 98, 1, 0, 5);
        fitting("none wins", 99, 0, 0, 5);
        fitting("all lose", 99, 100, 0, 0);
        fitting("all but 0 win", 0, 99, 0, 5);
        fitting("0 alone loses", 0, 1, 0, 0);
        // Of 39 THROWS that are all WON the last is by one TIRED 99: 99 - 24 above 49 by 26 at most.
        fitting("40 numbers, of 39 that are WON", 0, 99 - 73, lastOf40(195));
        fitting("40 numbers, any", 0, 100, lastOf40(-1));
        fitting("40 numbers, more than can be: none", 0, 0, lastOf40(196));
        c.leaves("one in no PLACE: all 100", States.BUSY.andThen(States.told(3, 8, 7, 2)), x -> x.fits(3, 5), 100);
        c.leaves("one in no PLACE, not so: 0", States.BUSY.andThen(States.told(3, 8, 7, 3)), x -> x.fits(3, 5), 0);
    }

    private static void least(String name, int theirs, int due, int... row) {
        Consumer<LineCalls> from = ONE.andThen(x -> x.theirs(5, 1, theirs)).andThen(States.told(1, 32, row));
        if (due == Cases.NONE) {
            c.refused(name, from, x -> x.tall(1, 0), Cases.NONE);
        } else {
            c.leaves(name, from, x -> x.tall(1, 0), due);
        }
    }

    private static void tall() {
        c.promise(27);
        sheetFindings((x, s, jumper) -> x.tall(s, jumper), 0);
        jumperFindings((x, s, jumper) -> x.tall(s, jumper), 0);
        least("no numbers: 0", 40, 0);
        least("any: 0", 40, 0, -1, -1);
        least("METRES now are not so: NONE", 40, Cases.NONE, 1);
        least("41 wins", 40, 41, 0, 5);
        least("0 loses", 40, 0, 0, 0);
        least("99 alone wins", 98, 99, 0, 5);
        least("99 does not win: NONE", 99, Cases.NONE, 0, 5);
        least("1 wins", 0, 1, 0, 5);
        least("0 alone loses", 0, 0, 0, 0);
        least("40 numbers, of 39 that are WON", 0, 74, lastOf40(195));
        least("40 numbers, more than can be: NONE", 0, Cases.NONE, lastOf40(196));
        c.refused("no such JUMPER is BEYOND, not NONE", ONE.andThen(States.told(1, 32, 1)), x -> x.tall(1, 1), Cases.BEYOND);
    }

    private static void kindsAre(String name, int tall, int theirs, int due, int... row) {
        c.leaves(name, States.lone(Cases.PROP, tall, 3).andThen(x -> x.theirs(3, 1, theirs)).andThen(States.told(1, 16, row)),
            x -> x.kinds(1, 0), due);
    }

    private static void kinds() {
        c.promise(28);
        sheetFindings((x, s, jumper) -> x.kinds(s, jumper), 127);
        jumperFindings((x, s, jumper) -> x.kinds(s, jumper), 127);
        kindsAre("no numbers: all KINDS", 38, 40, 127);
        kindsAre("any: all KINDS", 38, 40, 127, -1, -1);
        kindsAre("METRES now are not so: none", 38, 40, 0, 1);
        kindsAre("JUMPER, PROP, ROOKIE gain nothing: HIGH 38 or less", 38, 40, 1 + 2 + 32, 0, 0);
        kindsAre("LOCK, TOWER, GIANT gain 5", 38, 40, 4 + 8 + 16, 0, 5);
        kindsAre("FLANKER, the last, gains 7", 38, 40, 64, 0, 7);
        kindsAre("JUMPER, the first, alone with ROOKIE gains 3", 99, 40, 1 + 32, 0, 3);
        kindsAre("JUMPER alone wins both of two", 99, 0, 1, 0, 3, 6);
        kindsAre("PROP alone gains 1", 99, 0, 2, 0, 1);
        kindsAre("nothing gains 2", 99, 0, 0, 0, 2);
        kindsAre("40 numbers, of 39 by a FLANKER", 99, 0, 64, lastOf40(39 * 7));
        kindsAre("40 numbers, any", 99, 0, 127, lastOf40(-1));
    }

    /** z behind n draws; the document's int, in numbers that don't wrap around by themselves. */
    private static long drawn(long z, int n) {
        BigInteger all = BigInteger.ONE.shiftLeft(32);
        BigInteger is = BigInteger.valueOf(z).mod(all);
        for (int i = 0; i < n; i++) {
            is = is.multiply(BigInteger.valueOf(1103515245)).add(BigInteger.valueOf(12345)).mod(all);
        }
        return is.longValue();
    }

    private static long draw(long z, int n) {
        return drawn(z, n) / 256;
    }

    private static void mix() {
        c.promise(29);
        c.ends("n", States.NEW, (x, v) -> x.mix(v), 1, 0, 20, 0);
        c.beyond("n, when all has begun,", States.BUSY, (x, v) -> x.mix(v), 0, 21);
        c.refused("n -1 is refused", States.BUSY, x -> x.mix(-1), Cases.BEYOND);
        c.answers("20 are 20 THROWS", x -> x.mix(20), x -> x.now(0), 20);
        c.answers("20 take 40 draws", x -> x.mix(20), x -> x.count(6), (int) drawn(1, 40));
        c.answers("1 takes 2 draws", x -> x.mix(1), x -> x.count(6), (int) drawn(1, 2));
        c.test("20 at once are as 20 one by one", () -> {
            LineCalls x = Cases.made(States.BUSY);
            LineCalls y = Cases.made(States.BUSY);
            x.mix(20);
            for (int i = 0; i < 20; i++) {
                y.mix(1);
            }
            c.due(Probe.all(x).equals(Probe.all(y)) ? 1 : 0, 1);
        });
        Consumer<LineCalls> late = States.thrown(States.NEW, 99980);
        c.answers("THROW 99980 and 19 are allowed", late, x -> x.mix(19), 0);
        c.refused("THROW 99980 and 20 are above: STATE", late, x -> x.mix(20), Cases.STATE);
        c.refused("THROW 99980 and 21 are BEYOND first", late, x -> x.mix(21), Cases.BEYOND);
        c.refused("THROW 99999 and 1 are above: STATE", States.thrown(late, 19), x -> x.mix(1), Cases.STATE);
    }

    private static void mixDraws() {
        for (int z : new int[] {0, 1, -1, Integer.MIN_VALUE, Integer.MAX_VALUE, 4711}) {
            c.test("from z " + z + ": the CALL, the WIND, and z wraps around", () -> {
                LineCalls x = new LineCalls();
                x.seed(z);
                x.mix(1);
                c.due(x.listed(0), draw(z, 1) % 1000);
                c.due(x.set(0, 0), draw(z, 2) % 10);
                c.due(x.count(6), (int) drawn(z, 2));
            });
        }
        c.test("the draw of a z below 0 is above 0", () -> {
            LineCalls x = new LineCalls();
            x.seed(Integer.MIN_VALUE);
            // MIN is MIN * odd; MIN + 12345 is 0x80003039, and 0x800030 is 8388656.
            x.mix(1);
            c.due(x.listed(0), 656);
        });
        c.test("the 7th CALL is put in place of the first", () -> {
            LineCalls x = new LineCalls();
            x.mix(7);
            c.due(x.listed(0), draw(1, 13) % 1000);
            for (int i = 1; i < 6; i++) {
                c.due(x.listed(i), draw(1, 2 * i + 1) % 1000);
            }
            c.due(x.set(0, 0), draw(1, 14) % 10);
        });
        c.test("the WIND blows at the very THROW", () -> {
            // From z 1 the CALL is 654, for PLACE 4, and the WIND is not 0.
            LineCalls x = new LineCalls();
            x.jumper(Cases.GIANT, 99);
            x.stand(4, 0);
            int wind = (int) (draw(1, 2) % 10);
            c.due(draw(1, 1) % 1000, 654);
            c.due(x.mix(1), Math.max(0, 6 - wind));
        });
        c.test("WET and CODE stay, the CALL is read by the CODE", () -> {
            LineCalls x = new LineCalls();
            x.set(1, 4);
            x.set(2, 1);
            x.jumper(Cases.LOCK, 99);
            x.stand(1, 0);
            // 6 and 5 and 4 are 15: PLACE 1.
            c.due(x.mix(1), 3);
            c.due(x.set(1, 0), 4);
            c.due(x.set(2, 0), 1);
        });
    }

    private static void odds() {
        c.promise(30);
        c.ends("place", States.BUSY, (x, v) -> x.odds(v, 0, 0), 0, 1, 6, 1);
        c.ends("n", States.NEW, (x, v) -> x.odds(0, v, 1), 0, 1, 6, 15625);
        c.ends("what", States.NEW, (x, v) -> x.odds(3, 2, v), 0, 1, 1, 100);
        c.refused("place, n and what all beyond count once", States.BUSY, x -> x.odds(7, 7, 2), Cases.BEYOND);
        c.leaves("0 CALLS: above the line 1", States.BUSY, x -> x.odds(4, 0, 0), 1);
        c.leaves("0 CALLS: below the line 1", States.BUSY, x -> x.odds(4, 0, 1), 1);
        Consumer<LineCalls> never = x -> x.set(2, 3);
        c.answers("a PLACE that is never said, 1 CALL: 0", never, x -> x.odds(1, 1, 0), 0);
        c.answers("a PLACE that is never said, 1 CALL: in lowest terms below 1", never, x -> x.odds(1, 1, 1), 1);
        c.answers("a PLACE that is never said, 6 CALLS: 0", never, x -> x.odds(5, 6, 0), 0);
        c.answers("a PLACE that is never said, 6 CALLS: below 1", never, x -> x.odds(5, 6, 1), 1);
        c.answers("a PLACE that is never said, 0 CALLS: 1", never, x -> x.odds(5, 0, 0), 1);
        c.answers("half of all, 6 CALLS: above 1", never, x -> x.odds(0, 6, 0), 1);
        c.answers("half of all, 6 CALLS: below 64", never, x -> x.odds(0, 6, 1), 64);
        c.answers("more than an int: 71 to the 6th", x -> x.set(2, 1), x -> x.odds(1, 6, 0), 128100283921L);
        c.answers("more than an int: 500 to the 6th", x -> x.set(2, 1), x -> x.odds(1, 6, 1), 15625000000000000L);
        c.answers("THE LIST and z count for nothing", States.BUSY.andThen(x -> x.set(2, 0)), x -> x.odds(3, 1, 1), 10);
    }

    private static void oddsInAll() {
        c.test("every PLACE, n and CODE, as whole fractions", () -> {
            for (int code = 0; code < 5; code++) {
                LineCalls x = new LineCalls();
                x.set(2, code);
                for (int place = 0; place < 7; place++) {
                    int saying = 0;
                    LineCalls y = new LineCalls();
                    for (int v = 0; v < 1000; v++) {
                        saying += y.says(v, code) == place ? 1 : 0;
                    }
                    for (int n = 0; n <= 6; n++) {
                        BigInteger above = BigInteger.valueOf(saying).pow(n);
                        BigInteger below = BigInteger.valueOf(1000).pow(n);
                        BigInteger both = above.gcd(below);
                        c.due(x.odds(place, n, 0), above.divide(both).longValueExact());
                        c.due(x.odds(place, n, 1), below.divide(both).longValueExact());
                    }
                }
            }
        });
    }

    private static void seed() {
        c.promise(31);
        c.changes("z becomes the least int", States.BUSY, x -> x.seed(Integer.MIN_VALUE), 4711, "count 6=-2147483648");
        c.changes("z becomes the greatest int", States.BUSY, x -> x.seed(Integer.MAX_VALUE), 4711, "count 6=2147483647");
        c.changes("z becomes 0", States.BUSY, x -> x.seed(0), 4711, "count 6=0");
        c.changes("z becomes -1", States.BUSY, x -> x.seed(-1), 4711, "count 6=-1");
        c.leaves("z becomes what it is", States.BUSY, x -> x.seed(4711), 4711);
        c.changes("a z that was as a finding's number is no finding", States.NEW.andThen(x -> x.seed(Cases.BEYOND)),
            x -> x.seed(5), Cases.BEYOND, "count 6=5");
        c.answers("a new object's z was 1", States.NEW, x -> x.seed(9), 1);
    }
}
