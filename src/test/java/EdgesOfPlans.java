import java.util.function.Consumer;

/** Promises 19 to 24 at their edges: which CODE, which CALL, who where, as what, how TALL, the fewest CALLS. */
public final class EdgesOfPlans {
    private static final Cases c = new Cases();

    public static void main(String[] args) {
        codeFor();
        callFor();
        callForAgain();
        standFor();
        standForOthers();
        kindFor();
        tallFor();
        cover();
        c.end(19, 24);
    }

    private static Consumer<LineCalls> calls(int... list) {
        return x -> {
            for (int i = 0; i < 6; i++) {
                x.call(i, list[i % list.length]);
            }
        };
    }

    /** A sure one in PLACE 6; the CALLS are these, again and again. */
    private static Consumer<LineCalls> sureBut(int... list) {
        return States.sure(6).andThen(calls(list));
    }

    private static void codeFor() {
        c.promise(19);
        c.ends("n", sureBut(610), (x, v) -> x.codeFor(v), 0, 0, 40, 2);
        c.beyond("n, when all has begun,", States.BUSY, (x, v) -> x.codeFor(v), -1, 41);
        c.answers("without JUMPERS all do: the least, 0", States.NEW, x -> x.codeFor(40), 0);
        c.leaves("behind 0 all do: the least, 0, not that which is set", States.BUSY, x -> x.codeFor(0), 0);
        c.leaves("CODE 2 alone says it", sureBut(610), x -> x.codeFor(1), 2);
        c.leaves("CODES 1 and 2 say it: the least", sureBut(600), x -> x.codeFor(1), 1);
        c.leaves("CODE 4, the last, alone says it", sureBut(63), x -> x.codeFor(1), 4);
        c.leaves("CODES 0 and 1 say it: the least", sureBut(6), x -> x.codeFor(1), 0);
        c.leaves("CODE 4 is set: the one that is most, all the same", sureBut(610).andThen(x -> x.set(2, 4)), x -> x.codeFor(9), 2);
        // Five THROWS to nobody take all that was won: what counts is whether the last is to it.
        c.answers("behind 39 nothing is left: the least", sureBut(1, 1, 1, 610, 1, 1), x -> x.codeFor(39), 0);
        c.answers("behind 40 the 40th THROW counts", sureBut(1, 1, 1, 610, 1, 1), x -> x.codeFor(40), 2);
    }

    private static void callFor() {
        c.promise(20);
        c.ends("n", States.sure(6), (x, v) -> x.callFor(v), 0, 0, 10, 6);
        c.beyond("n, when all has begun,", States.BUSY, (x, v) -> x.callFor(v), -1, 11);
        c.answers("without JUMPERS all do: the least, 0", States.NEW, x -> x.callFor(10), 0);
        c.leaves("behind 0 all do: the least, 0", States.BUSY, x -> x.callFor(0), 0);
        int[] forRear = {6, 6, 600, 0, 63};
        int[] forFront = {0, 0, 0, 1, 0};
        int[] forMiddle = {3, 3, 300, 10, 7};
        for (int k = 0; k < 5; k++) {
            int code = k;
            c.leaves("the least CALL that says the rear by CODE " + k,
                States.sure(6).andThen(x -> x.set(2, code)), x -> x.callFor(1), forRear[k]);
            c.leaves("the least CALL that says the front by CODE " + k,
                States.sure(0).andThen(x -> x.set(2, code)), x -> x.callFor(1), forFront[k]);
            c.leaves("the least CALL that says PLACE 3 by CODE " + k,
                States.sure(3).andThen(x -> x.set(2, code)), x -> x.callFor(1), forMiddle[k]);
        }
        c.leaves("no CALL says PLACE 1 by CODE 3: the least, 0", States.sure(1).andThen(x -> x.set(2, 3)), x -> x.callFor(1), 0);
        c.leaves("the next CALL when THROW is 1, not the first", States.BUSY, x -> x.callFor(1), 6);
    }

    private static void callForAgain() {
        // One that gains 6 in the rear; all other CALLS are to nobody, 5 less each.
        Consumer<LineCalls> one = x -> {
            x.jumper(Cases.JUMPER, 99);
            x.stand(6, 0);
        };
        int[] due = {0, 6, 6, 0, 0, 0, 0, 6, 6, 0, 0};
        for (int n = 0; n <= 10; n++) {
            int behind = n;
            c.leaves("behind " + n + ": THE LIST tells it from now on, to the 7th THROW too", one, x -> x.callFor(behind), due[n]);
        }
        for (int n : new int[] {5, 6, 7}) {
            c.answers("when THROW is " + n + " it is the CALL of THROW modulo 6",
                one.andThen(x -> x.go(n)), x -> x.callFor(7), 6);
        }
        c.test("it is put in the place of no other CALL", () -> {
            LineCalls x = Cases.made(one);
            x.go(5);
            x.call(0, 6);
            // The CALL behind the next one is to it as well: 6 and 6 behind 2.
            c.due(x.callFor(2), 6);
            x.call(5, x.callFor(2));
            c.due(x.metres(2), 12);
        });
    }

    private static void standFor() {
        c.promise(21);
        Consumer<LineCalls> away = States.sure(6).andThen(x -> x.stand(2, 0));
        c.ends("n", away, (x, v) -> x.standFor(0, v), 0, 0, 40, 6);
        c.ends("jumper (of six)", States.BUSY, (x, v) -> x.standFor(v, 0), 0, 0, 5, 0);
        c.ends("jumper (of eight)", States.CROWD, (x, v) -> x.standFor(v, 0), 0, 0, 7, 0);
        c.refused("jumper 0 is refused while there are none", States.NEW, x -> x.standFor(0, 0), Cases.BEYOND);
        c.leaves("behind 0 all do: the least, 0, not where it stands", States.sure(6), x -> x.standFor(0, 0), 0);
        c.leaves("the rear, where it stands", States.sure(6), x -> x.standFor(0, 1), 6);
        c.leaves("the rear, when it stands elsewhere", away, x -> x.standFor(0, 1), 6);
        c.leaves("the rear, when it stands in none", States.sure(6).andThen(x -> x.stand(6, -1)), x -> x.standFor(0, 1), 6);
        c.leaves("the front", States.sure(0).andThen(x -> x.stand(6, 0)), x -> x.standFor(0, 1), 0);
        c.leaves("nowhere it wins: the least", States.lone(Cases.PROP, 50, 5), x -> x.standFor(0, 40), 0);
        // In PLACE 1 it always loses; five THROWS there take all that was won in the rear.
        Consumer<LineCalls> atFortieth = sureBut(1, 1, 1, 6, 1, 1).andThen(x -> x.theirs(1, 1, 99));
        c.answers("behind 39 nothing is left: the least", atFortieth, x -> x.standFor(0, 39), 0);
        c.answers("behind 40 the 40th THROW counts", atFortieth, x -> x.standFor(0, 40), 6);
    }

    private static void standForOthers() {
        for (int p : new int[] {0, 4}) {
            // In 6 the first wins 13, and the second thrice where that stood. The first in 5: 11. Both as they are: 0 and 22.
            c.leaves("from PLACE " + p + ": who stands there comes to where it stood", x -> {
                x.jumper(Cases.FLANKER, 99);
                x.jumper(Cases.LOCK, 30);
                x.stand(p, 0);
                x.stand(6, 1);
                x.theirs(6, 1, 60);
                x.theirs(p, 1, 20);
                calls(6, p, p, p, 5).accept(x);
            }, x -> x.standFor(0, 5), 6);
        }
        // In 5 it would send the LOCK away (5 METRES in all), in 4 it wins 4 and the LOCK 7.
        c.leaves("who stands there comes to none, if it stood in none", x -> {
            x.jumper(Cases.LOCK, 99);
            x.jumper(Cases.JUMPER, 99);
            x.stand(5, 0);
        }, x -> x.standFor(1, 6), 4);
        // In 4 it wins 4, and the next, to nobody, takes them again.
        c.leaves("the empty PLACE that it leaves is to nobody", x -> {
            x.jumper(Cases.JUMPER, 99);
            x.stand(4, 0);
            calls(4, 6).accept(x);
        }, x -> x.standFor(0, 2), 6);
    }

    private static void kindFor() {
        c.promise(22);
        Consumer<LineCalls> middling = States.lone(Cases.PROP, 38, 3);
        c.ends("n", middling, (x, v) -> x.kindFor(0, v), 0, 0, 40, Cases.TOWER);
        c.ends("jumper (of six)", States.BUSY, (x, v) -> x.kindFor(v, 0), 0, 0, 5, 0);
        c.ends("jumper (of eight)", States.CROWD, (x, v) -> x.kindFor(v, 0), 0, 0, 7, 0);
        c.refused("jumper 0 is refused while there are none", States.NEW, x -> x.kindFor(0, 0), Cases.BEYOND);
        c.leaves("behind 0 all do: the least, 0, not its own", middling, x -> x.kindFor(0, 0), 0);
        c.leaves("LOCK, TOWER, GIANT win one: the least", middling, x -> x.kindFor(0, 1), Cases.LOCK);
        c.leaves("LOCK, TOWER, GIANT win two: the least", middling, x -> x.kindFor(0, 2), Cases.LOCK);
        c.leaves("TOWER and GIANT win a third: the least", middling, x -> x.kindFor(0, 3), Cases.TOWER);
        c.leaves("none wins: the least", States.lone(Cases.FLANKER, 0, 3), x -> x.kindFor(0, 40), 0);
        c.leaves("the last KIND alone wins", States.lone(Cases.JUMPER, 0, 3).andThen(x -> x.theirs(3, 1, 29)),
            x -> x.kindFor(0, 1), Cases.FLANKER);
        c.leaves("all win: the least", States.lone(Cases.FLANKER, 99, 3).andThen(x -> x.theirs(3, 1, 0)), x -> x.kindFor(0, 1), 0);
        c.leaves("one in no PLACE wins as none: the least", States.BUSY, x -> x.kindFor(5, 40), 0);
        c.answers("WON 9999 can't be more: the least", middling.andThen(x -> x.change(0, 3, 9999)), x -> x.kindFor(0, 40), 0);
        c.answers("WON 9998 can be one more", middling.andThen(x -> x.change(0, 3, 9998)), x -> x.kindFor(0, 40), Cases.LOCK);
    }

    private static void tallFor() {
        c.promise(23);
        // To win all of 40 it must be above 49 when TIRED is 78: (59 - 19) / 2 + 30 is 50.
        c.ends("n", States.sure(0), (x, v) -> x.tallFor(0, v == 40 ? 40 : 0, v), 0, 0, 40, 59);
        c.ends("v", States.sure(0).andThen(x -> x.change(0, 3, 9999)), (x, v) -> x.tallFor(0, v, 40), 0, 0, 9999, 0);
        c.ends("jumper (of six)", States.BUSY, (x, v) -> x.tallFor(v, 0, 0), 0, 0, 5, 0);
        c.ends("jumper (of eight)", States.CROWD, (x, v) -> x.tallFor(v, 0, 0), 0, 0, 7, 0);
        c.refused("jumper 0 is refused while there are none", States.NEW, x -> x.tallFor(0, 0, 0), Cases.BEYOND);
        c.refused("41 of 40: NONE", States.sure(0), x -> x.tallFor(0, 41, 40), Cases.NONE);
        c.refused("v 10000 is BEYOND, not NONE", States.sure(0), x -> x.tallFor(0, 10000, 40), Cases.BEYOND);
        c.refused("n 41 is BEYOND, not NONE", States.sure(0), x -> x.tallFor(0, 9999, 41), Cases.BEYOND);
        c.refused("one of 0: NONE", States.sure(0), x -> x.tallFor(0, 1, 0), Cases.NONE);
        c.leaves("as many as it has WON, of 0: 0", States.BUSY, x -> x.tallFor(0, 4, 0), 0);
        c.refused("one more than it has WON, of 0: NONE", States.BUSY, x -> x.tallFor(0, 5, 0), Cases.NONE);
        c.refused("one in no PLACE: NONE", States.BUSY, x -> x.tallFor(5, 1, 40), Cases.NONE);
        Consumer<LineCalls> one = States.lone(Cases.JUMPER, 70, 3);
        c.leaves("the least that is above 40", one, x -> x.tallFor(0, 1, 1), 41);
        c.leaves("the most: 99 above 98", one.andThen(x -> x.theirs(3, 1, 98)), x -> x.tallFor(0, 1, 1), 99);
        c.refused("99 is not above 99: NONE", one.andThen(x -> x.theirs(3, 1, 99)), x -> x.tallFor(0, 1, 1), Cases.NONE);
        c.leaves("0 is enough for a LOCK against 9", States.lone(Cases.LOCK, 70, 3).andThen(x -> x.theirs(3, 1, 9)),
            x -> x.tallFor(0, 1, 1), 0);
        c.leaves("1 is enough for a LOCK against 10", States.lone(Cases.LOCK, 70, 3).andThen(x -> x.theirs(3, 1, 10)),
            x -> x.tallFor(0, 1, 1), 1);
        c.answers("WON 9998 comes to 9999", one.andThen(x -> x.change(0, 3, 9998)), x -> x.tallFor(0, 9999, 40), 41);
    }

    private static void covered(String name, Consumer<LineCalls> from, int due) {
        c.leaves(name, from, LineCalls::cover, due);
    }

    private static void cover() {
        c.promise(24);
        covered("six PLACES: all CALLS", States.NEW, 63);
        covered("one PLACE: the first CALL alone", calls(6), 1);
        covered("the last CALL says another PLACE", calls(1, 1, 1, 1, 1, 2), 33);
        covered("the first CALL says another PLACE", calls(2, 1, 1, 1, 1, 1), 3);
        covered("two say each PLACE: the least set", calls(1, 1, 2, 2, 3, 3), 21);
        covered("two say each PLACE, in turn: the least set", calls(1, 2, 3), 7);
        covered("CALLS 0 and 7 say the same PLACE by CODE 0", calls(0, 7, 10, 17, 20, 6), 33);
        covered("CALLS 6 and 9 are two PLACES", calls(6, 9), 3);
        covered("by CODE 2 all say the front", x -> x.set(2, 2), 1);
        covered("by CODE 4: 0, 3, 3, 2, 3, 5 bits", x -> x.set(2, 4), 1 + 2 + 8 + 32);
        covered("whatever THROW is", x -> x.go(5), 63);
        covered("whoever stands there: BUSY says 6, 2, 6, 6, 0, 3", States.BUSY, 1 + 2 + 16 + 32);
    }
}
