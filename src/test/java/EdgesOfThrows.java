import java.util.function.Consumer;

/** Promises 13 to 18 at their edges: THROWS, what is now, what will be. */
public final class EdgesOfThrows {
    private static final Cases c = new Cases();
    /** METRES 99996: more would be 99999 at most. 140 calls. */
    private static final Consumer<LineCalls> FAR = States.thrown(States.sure(6), 7692);

    public static void main(String[] args) {
        go();
        contest();
        wonMost();
        metresLeast();
        metresMost();
        tired();
        rest();
        read();
        listGoesRound();
        wholeThrows();
        lastThrow();
        now();
        nowSets();
        ahead();
        metres();
        when();
        known();
        c.end(13, 18);
    }

    private static void go() {
        c.promise(13);
        c.ends("n", States.sure(0), (x, v) -> x.go(v), 1, 1, 60, 60);
        c.beyond("n, when all has begun,", States.BUSY, (x, v) -> x.go(v), 0, 61);
        c.refused("n -1 is refused", States.BUSY, x -> x.go(-1), Cases.BEYOND);
        c.test("the 512th call, the last of which the document speaks", () -> {
            LineCalls x = Cases.made(States.sure(0));
            for (int call = 10; call < 512; call++) {
                x.go(60);
            }
            c.due(x.go(60), 503 * 60);
        });
        c.answers("60 THROWS are 60", x -> x.go(60), x -> x.now(0), 60);
        c.test("60 THROWS at once are as 60 one by one", () -> {
            LineCalls x = Cases.made(States.BUSY);
            LineCalls y = Cases.made(States.BUSY);
            x.go(60);
            for (int i = 0; i < 60; i++) {
                y.go(1);
            }
            c.due(Probe.all(x).equals(Probe.all(y)) ? 1 : 0, 1);
        });
    }

    private static void contested(String name, int kind, int tall, int tired, int read, boolean isWon) {
        c.test(name, () -> {
            LineCalls x = Cases.made(States.lone(kind, tall, 6));
            x.change(0, 2, tired);
            x.theirs(6, 2, read);
            x.go(1);
            c.due(x.of(0, 3), isWon ? 1 : 0);
            c.due(x.of(0, 4), isWon ? 0 : 1);
        });
    }

    private static void contest() {
        contested("HIGH 41 above FORCE 40 is WON", Cases.JUMPER, 41, 0, 0, true);
        contested("HIGH 40, as much as FORCE, is LOST", Cases.JUMPER, 40, 0, 0, false);
        contested("HIGH 39 below FORCE 40 is LOST", Cases.JUMPER, 39, 0, 0, false);
        contested("READ 1 adds nothing to FORCE", Cases.JUMPER, 41, 0, 1, true);
        contested("READ 2 adds 1 to FORCE", Cases.JUMPER, 41, 0, 2, false);
        contested("READ 99 adds 49 to FORCE: 90 is WON", Cases.JUMPER, 90, 0, 99, true);
        contested("READ 99 adds 49 to FORCE: 89 is LOST", Cases.JUMPER, 89, 0, 99, false);
        contested("TIRED 3 takes nothing", Cases.JUMPER, 41, 3, 0, true);
        contested("TIRED 4 takes 1", Cases.JUMPER, 41, 4, 0, false);
        contested("a GIANT of TIRED 19 is higher by 10", Cases.GIANT, 20, 19, 0, true);
        contested("a GIANT of TIRED 20 is not", Cases.GIANT, 29, 20, 0, false);
        contested("a ROOKIE wins when THROW is even", Cases.ROOKIE, 41, 0, 0, true);
        c.test("a ROOKIE loses when THROW is odd, even to FORCE 0", () -> {
            LineCalls x = Cases.made(States.lone(Cases.ROOKIE, 99, 6).andThen(y -> y.stand(6, -1)));
            x.theirs(6, 1, 0);
            x.go(1);
            x.stand(6, 0);
            x.theirs(6, 2, 0);
            x.go(1);
            c.due(x.of(0, 3), 0);
            c.due(x.of(0, 4), 1);
        });
        c.test("with nobody there nothing is WON or LOST", () -> {
            LineCalls x = Cases.made(States.lone(Cases.JUMPER, 99, 6));
            x.stand(5, 0);
            x.go(1);
            c.due(x.now(2), 0);
            c.due(x.now(3), 0);
        });
        c.test("a GIANT that gains 0 by the WIND has WON", () -> {
            LineCalls x = Cases.made(States.lone(Cases.GIANT, 99, 6));
            x.set(0, 9);
            c.due(x.go(1), 0);
            c.due(x.of(0, 3), 1);
        });
    }

    private static Consumer<LineCalls> loneHaving(int tall, int what, int v) {
        return States.lone(Cases.JUMPER, tall, 6).andThen(x -> x.change(0, what, v));
    }

    private static void wonMost() {
        for (int was = 9997; was <= 9999; was++) {
            int due = Math.min(9999, was + 1);
            c.answers("WON " + was + " becomes " + due, loneHaving(99, 3, was).andThen(x -> x.go(1)), x -> x.of(0, 3), due);
            c.answers("LOST " + was + " becomes " + due, loneHaving(0, 4, was).andThen(x -> x.go(1)), x -> x.of(0, 4), due);
        }
        c.answers("WON 9999 still gains METRES", loneHaving(99, 3, 9999), x -> x.go(1), 6);
        c.answers("LOST is as before by one that is WON", loneHaving(99, 4, 9999).andThen(x -> x.go(1)), x -> x.of(0, 4), 9999);
        c.answers("WON is as before by one that is LOST", loneHaving(0, 3, 9999).andThen(x -> x.go(1)), x -> x.of(0, 3), 9999);
    }

    private static void metresLeast() {
        for (int p = 0; p < 7; p++) {
            int place = p;
            Consumer<LineCalls> from = States.thrown(States.lone(Cases.JUMPER, 99, p), 1);
            c.answers("METRES " + p + " behind one that is LOST: 3 less, 0 at least",
                from.andThen(x -> x.change(0, 1, 0)), x -> x.go(1), p < 3 ? 0 : p - 3);
            c.answers("METRES " + p + " behind one to nobody: 5 less, 0 at least",
                from.andThen(x -> x.stand(place, -1)), x -> x.go(1), p < 5 ? 0 : p - 5);
        }
        c.answers("METRES 0 stay 0 by 60 that are LOST", States.lone(Cases.JUMPER, 0, 6), x -> x.go(60), 0);
        c.answers("METRES 0 stay 0 by 60 to nobody", States.NEW, x -> x.go(60), 0);
        c.answers("METRES begin at 0 again behind many that are LOST", States.lone(Cases.JUMPER, 0, 6).andThen(x -> {
            x.go(60);
            x.change(0, 1, 99);
            x.change(0, 2, 0);
            x.theirs(6, 2, 0);
        }), x -> x.go(1), 6);
    }

    private static void metresMost() {
        c.answers("METRES come to 99996", FAR, x -> x.now(1), 99996);
        c.answers("METRES 99996 and 13 are 99999 at most", FAR, x -> x.go(1), 99999);
        c.answers("METRES stay 99999", FAR, x -> x.go(60), 99999);
        Consumer<LineCalls> inOne = FAR.andThen(x -> {
            x.stand(1, 0);
            for (int i = 0; i < 6; i++) {
                x.call(i, 1);
            }
        });
        c.answers("METRES 99996 and 3 are 99999", inOne, x -> x.go(1), 99999);
        c.answers("METRES 99996 and 1 are 99997", FAR.andThen(x -> {
            x.stand(0, 0);
            x.theirs(0, 1, 0);
            for (int i = 0; i < 6; i++) {
                x.call(i, 0);
            }
        }), x -> x.go(1), 99997);
        c.answers("METRES 99999 are 99994 by one to nobody", inOne.andThen(x -> {
            x.go(1);
            x.stand(1, -1);
        }), x -> x.go(1), 99994);
        c.answers("WON is more when METRES can't be", FAR.andThen(x -> x.go(2)), x -> x.of(0, 3), 7694);
    }

    private static void tired() {
        for (int was : new int[] {0, 90, 91, 92, 98, 99}) {
            int due = Math.min(99, was + 8);
            c.answers("TIRED " + was + " and 8 by a throw that is WON", States.lone(Cases.PROP, 99, 3).andThen(x -> {
                x.change(0, 2, was);
                x.theirs(3, 1, 0);
                x.go(1);
            }), x -> x.of(0, 2), due);
            c.answers("TIRED " + was + " and 8 by a throw that is LOST", States.lone(Cases.PROP, 0, 3).andThen(x -> {
                x.change(0, 2, was);
                x.go(1);
            }), x -> x.of(0, 2), due);
        }
        c.answers("a ROOKIE is TIRED by 14 when WET is 9", States.lone(Cases.ROOKIE, 50, 3).andThen(x -> {
            x.set(1, 9);
            x.go(1);
        }), x -> x.of(0, 2), 14);
        c.answers("one throw is decided ahead of its TIRES and READ", States.lone(Cases.JUMPER, 41, 3), x -> x.go(1), 3);
    }

    private static void rest() {
        for (int was : new int[] {0, 1, 2, 3, 99}) {
            int due = Math.max(0, was - 2);
            c.answers("TIRED " + was + " of another in a PLACE is 2 less, 0 at least",
                States.lone(Cases.JUMPER, 50, 3).andThen(x -> {
                    x.jumper(Cases.PROP, 50);
                    x.stand(4, 1);
                    x.change(1, 2, was);
                    x.go(1);
                }), x -> x.of(1, 2), due);
            c.answers("TIRED " + was + " of another in no PLACE is 2 less, 0 at least",
                States.lone(Cases.JUMPER, 50, 3).andThen(x -> {
                    x.jumper(Cases.PROP, 50);
                    x.change(1, 2, was);
                    x.go(1);
                }), x -> x.of(1, 2), due);
            c.answers("TIRED " + was + " of all is 2 less, 0 at least, by one to nobody",
                States.lone(Cases.JUMPER, 50, 3).andThen(x -> {
                    x.stand(4, 0);
                    x.change(0, 2, was);
                    x.go(1);
                }), x -> x.of(0, 2), due);
        }
        c.test("all eight but one rest", () -> {
            LineCalls x = Cases.made(States.CROWD);
            for (int j = 0; j < 8; j++) {
                x.change(j, 2, 10);
            }
            x.go(1);
            for (int j = 0; j < 8; j++) {
                c.due(x.of(j, 2), j == 0 ? 15 : 8);
            }
        });
    }

    private static void read() {
        for (int was : new int[] {0, 92, 93, 94, 99}) {
            int due = Math.min(99, was + 6);
            c.answers("READ " + was + " of that PLACE is 6 more, 99 at most", States.lone(Cases.JUMPER, 50, 6).andThen(x -> {
                x.theirs(6, 2, was);
                x.go(1);
            }), x -> x.place(6, 2), due);
            c.answers("READ " + was + " of that PLACE, with nobody there, is 6 more, 99 at most", x -> {
                x.theirs(0, 2, was);
                x.go(1);
            }, x -> x.place(0, 2), due);
        }
        for (int was : new int[] {0, 1, 2, 99}) {
            for (int p : new int[] {1, 6}) {
                c.answers("READ " + was + " of PLACE " + p + ", another one, is 1 less, 0 at least", x -> {
                    x.theirs(p, 2, was);
                    x.go(1);
                }, x -> x.place(p, 2), Math.max(0, was - 1));
            }
        }
        c.test("how high they are stays", () -> {
            LineCalls x = new LineCalls();
            x.go(60);
            for (int p = 0; p < 7; p++) {
                c.due(x.place(p, 1), 40);
            }
        });
    }

    private static void listGoesRound() {
        for (int n : new int[] {1, 5, 6, 7, 11, 12, 13, 60}) {
            c.test("THROW " + n + " takes the CALL of THROW modulo 6", () -> {
                LineCalls x = new LineCalls();
                x.go(n);
                for (int p = 0; p < 7; p++) {
                    x.theirs(p, 2, 50);
                }
                x.go(1);
                for (int p = 0; p < 7; p++) {
                    c.due(x.place(p, 2), p == n % 6 ? 56 : 49);
                }
            });
        }
        c.test("the CALL is read by the CODE", () -> {
            int[] said = {2, 0, 4, 3, 5};
            for (int code = 0; code < 5; code++) {
                LineCalls y = new LineCalls();
                y.call(0, 412);
                y.set(2, code);
                y.go(1);
                c.due(y.place(said[code], 2), 6);
            }
        });
    }

    private static void wholeThrows() {
        c.changes("one to nobody: all that it changes", States.BUSY, x -> x.go(1), 2,
            "count 0=2", "now 0=2", "count 2=2", "now 1=2", "now 4=6", "jumper 1 tired=31", "jumper 1 high=24",
            "jumper 2 tired=6", "jumper 2 high=70", "jumper 3 high=70", "place 2 read=27", "place 2 force=53",
            "place 5 read=5", "place 5 force=42");
        c.changes("one that is WON: all that it changes", States.BUSY.andThen(x -> x.call(1, 15)), x -> x.go(1), 20,
            "count 0=2", "now 0=2", "count 2=20", "now 1=20", "count 3=6", "now 2=6", "now 4=6", "now 5=34",
            "jumper 4 won=1", "jumper 4 tired=2", "jumper 1 tired=31", "jumper 1 high=24", "jumper 2 tired=6",
            "jumper 2 high=70", "jumper 3 high=70", "place 6 read=6", "place 6 force=43", "place 2 read=20",
            "place 5 read=5", "place 5 force=42");
        c.changes("one that is LOST: all that it changes", States.BUSY.andThen(x -> x.call(1, 3)), x -> x.go(1), 4,
            "count 0=2", "now 0=2", "count 2=4", "now 1=4", "count 4=6", "now 3=6", "now 4=6", "jumper 1 lost=1",
            "jumper 1 tired=41", "jumper 1 high=22", "jumper 2 tired=6", "jumper 2 high=70", "jumper 3 high=70",
            "place 3 read=6", "place 3 force=43", "place 2 read=20", "place 5 read=5", "place 5 force=42");
    }

    /** The document promises nothing behind call 512, but the last THROW is seen only there. */
    private static void lastThrow() {
        Consumer<LineCalls> late = States.thrown(States.NEW, 99960);
        c.answers("THROW 99960 and 39 are allowed", late, x -> x.go(39), 0);
        c.answers("THROW 99999 is the last", States.thrown(late, 39), x -> x.now(0), 99999);
        c.refused("THROW 99960 and 40 are above: STATE", late, x -> x.go(40), Cases.STATE);
        c.refused("THROW 99960 and 60 are above: STATE", late, x -> x.go(60), Cases.STATE);
        c.refused("THROW 99960 and 61 are BEYOND first", late, x -> x.go(61), Cases.BEYOND);
        c.refused("THROW 99999 and 1 are above: STATE", States.thrown(late, 39), x -> x.go(1), Cases.STATE);
        c.refused("THROW 99999 and 0 are BEYOND", States.thrown(late, 39), x -> x.go(0), Cases.BEYOND);
    }

    private static void now() {
        c.promise(14);
        c.ends("what", States.BUSY, (x, v) -> x.now(v), 0, 1, 6, 77);
        int[] due = {1, 7, 5, 5, 2, 98, 77};
        for (int what = 0; what < 7; what++) {
            int asked = what;
            c.leaves("what " + what + " is told and nothing changes", States.BUSY, x -> x.now(asked), due[what]);
        }
        Consumer<LineCalls> most = States.CROWD.andThen(x -> {
            for (int j = 0; j < 8; j++) {
                x.change(j, 3, 9999);
                x.change(j, 4, 9999);
            }
        });
        c.answers("WON of all eight at their most", most, x -> x.now(2), 79992);
        c.answers("LOST of all eight at their most", most, x -> x.now(3), 79992);
        c.answers("METRES at their most", FAR.andThen(x -> x.go(1)), x -> x.now(1), 99999);
        c.answers("the next CALL when THROW is 5 is the last", x -> x.go(5), x -> x.now(4), 5);
        c.answers("the next CALL when THROW is 6 is the first again", x -> x.go(6), x -> x.now(4), 0);
        c.answers("the next CALL says the rear PLACE", x -> x.call(0, 6), x -> x.now(4), 6);
        c.answers("the next CALL wraps around to the front", x -> x.call(0, 7), x -> x.now(4), 0);
    }

    private static void nowSets() {
        c.answers("no PLACE would be WON where nobody is", States.NEW, x -> x.now(5), 0);
        Consumer<LineCalls> all = States.CROWD.andThen(x -> {
            for (int p = 0; p < 7; p++) {
                x.theirs(p, 1, 0);
            }
        });
        c.answers("all PLACES would be WON", all, x -> x.now(5), 127);
        c.answers("all PLACES but the ROOKIE's would be WON when THROW is odd", all.andThen(x -> x.go(1)), x -> x.now(5), 95);
        c.answers("HIGH 40 would not be WON against 40", States.lone(Cases.JUMPER, 40, 6), x -> x.now(5), 0);
        c.answers("HIGH 41 would be WON against 40", States.lone(Cases.JUMPER, 41, 6), x -> x.now(5), 64);
        c.answers("the front PLACE is bit 0", States.lone(Cases.JUMPER, 41, 0), x -> x.now(5), 1);
        c.answers("one in no PLACE wins none", States.lone(Cases.JUMPER, 99, 0).andThen(x -> x.stand(0, -1)), x -> x.now(5), 0);
        c.answers("THE LIST says six PLACES", States.NEW, x -> x.now(6), 63);
        c.answers("THE LIST says the front PLACE alone", States.lone(Cases.JUMPER, 41, 0), x -> x.now(6), 1);
        c.answers("THE LIST says the rear PLACE alone", States.lone(Cases.JUMPER, 41, 6), x -> x.now(6), 64);
        c.answers("THE LIST says the same PLACES whatever THROW is", x -> x.go(5), x -> x.now(6), 63);
    }

    private static void ahead() {
        c.promise(15);
        c.ends("jumper (of six)", States.BUSY, (x, v) -> x.ahead(v, 5, 0), 0, 70, 5, 33);
        c.ends("jumper (of eight)", States.CROWD, (x, v) -> x.ahead(v, 5, 0), 0, 50, 7, 50);
        c.ends("what", States.BUSY, (x, v) -> x.ahead(2, v, 0), 2, 8, 5, 69);
        c.ends("n", States.sure(0), (x, v) -> x.ahead(0, 3, v), 0, 0, 100, 100);
        c.refused("jumper 0 is refused while there are none", States.NEW, x -> x.ahead(0, 2, 0), Cases.BEYOND);
        c.leaves("0 THROWS: TIRED is as it is", States.BUSY, x -> x.ahead(1, 2, 0), 33);
        c.leaves("0 THROWS: WON is as it is", States.BUSY, x -> x.ahead(0, 3, 0), 4);
        c.leaves("0 THROWS: LOST is as it is", States.BUSY, x -> x.ahead(3, 4, 0), 5);
        c.leaves("100 THROWS: nothing changes", States.BUSY, x -> x.ahead(5, 5, 100), 33);
        c.leaves("a ROOKIE behind an odd THROW", States.BUSY, x -> x.ahead(3, 5, 1), 70);
        c.leaves("a ROOKIE behind an even THROW", States.BUSY, x -> x.ahead(3, 5, 2), 0);
        c.answers("TIRED behind 49 THROWS by 2 each", States.sure(0), x -> x.ahead(0, 2, 49), 98);
        c.answers("TIRED behind 50 THROWS is 99 at most", States.sure(0), x -> x.ahead(0, 2, 50), 99);
        c.answers("TIRED behind 100 THROWS is 99 at most", States.sure(0), x -> x.ahead(0, 2, 100), 99);
        Consumer<LineCalls> resting = x -> {
            x.jumper(0, 50);
            x.change(0, 2, 99);
        };
        c.answers("TIRED 99 behind 49 THROWS to others", resting, x -> x.ahead(0, 2, 49), 1);
        c.answers("TIRED 99 behind 50 THROWS to others is 0", resting, x -> x.ahead(0, 2, 50), 0);
        c.answers("TIRED 99 behind 100 THROWS to others is 0 at least", resting, x -> x.ahead(0, 2, 100), 0);
        c.answers("WON 9899 behind 100 is 9999", States.sure(0).andThen(x -> x.change(0, 3, 9899)), x -> x.ahead(0, 3, 100), 9999);
        c.answers("WON 9950 behind 100 is 9999 at most", States.sure(0).andThen(x -> x.change(0, 3, 9950)), x -> x.ahead(0, 3, 100), 9999);
        c.answers("LOST 9950 behind 100 is 9999 at most", loneHaving(0, 4, 9950), x -> x.ahead(0, 4, 100), 9999);
        c.answers("LOST 9898 behind 100 is 9998", loneHaving(0, 4, 9898), x -> x.ahead(0, 4, 100), 9998);
    }

    private static void metres() {
        c.promise(16);
        c.ends("n", States.sure(0), (x, v) -> x.metres(v), 0, 0, 100, 100);
        c.leaves("0 THROWS: as they are", States.BUSY, x -> x.metres(0), 7);
        c.leaves("1 THROW, and nothing changes", States.BUSY, x -> x.metres(1), 2);
        c.leaves("2 THROWS, and nothing changes", States.BUSY, x -> x.metres(2), 15);
        c.leaves("100 THROWS, and nothing changes", States.sure(6), x -> x.metres(100), 1300);
        c.answers("0 at least", States.NEW, x -> x.metres(100), 0);
        c.answers("99996 and 13 are 99999 at most", FAR, x -> x.metres(1), 99999);
        c.answers("99999 at most behind 100", FAR, x -> x.metres(100), 99999);
        c.answers("99996 behind 0", FAR, x -> x.metres(0), 99996);
        c.test("behind n THROWS they are as told", () -> {
            for (int n : new int[] {1, 2, 7, 39, 60}) {
                int told = Cases.made(States.BUSY).metres(n);
                c.due(Cases.made(States.BUSY).go(n), told);
            }
        });
    }

    private static void when() {
        c.promise(17);
        Consumer<LineCalls> surest = States.sure(0);
        c.ends("jumper (of six)", States.BUSY, (x, v) -> x.when(v, 0), 0, 0, 5, 0);
        c.ends("jumper (of eight)", States.CROWD, (x, v) -> x.when(v, 0), 0, 0, 7, 0);
        c.ends("v", surest.andThen(x -> x.change(0, 3, 9999)), (x, v) -> x.when(0, v), 0, 0, 9999, 0);
        c.refused("jumper 0 is refused while there are none", States.NEW, x -> x.when(0, 0), Cases.BEYOND);
        c.refused("v 10000 is BEYOND, not NONE", surest, x -> x.when(0, 10000), Cases.BEYOND);
        c.leaves("v as much as WON is now: 0 THROWS", States.BUSY, x -> x.when(0, 4), 0);
        c.leaves("v below what WON is now: 0 THROWS", States.BUSY, x -> x.when(0, 3), 0);
        c.leaves("one more: 1 THROW", surest, x -> x.when(0, 1), 1);
        c.leaves("99 more: 99 THROWS", surest, x -> x.when(0, 99), 99);
        c.leaves("100 more: 100 THROWS, the last that count", surest, x -> x.when(0, 100), 100);
        c.refused("101 more: NONE", surest, x -> x.when(0, 101), Cases.NONE);
        c.refused("9999: NONE", surest, x -> x.when(0, 9999), Cases.NONE);
        c.refused("one in no PLACE: NONE", States.BUSY, x -> x.when(5, 1), Cases.NONE);
        c.answers("WON 9998: 9999 behind 1", surest.andThen(x -> x.change(0, 3, 9998)), x -> x.when(0, 9999), 1);
        c.answers("the fewest, though it is WON again later", States.lone(Cases.ROOKIE, 99, 6), x -> x.when(0, 2), 3);
    }

    private static Consumer<LineCalls> onceInSix(int at) {
        // From its 17th THROW on it is 11 HIGH at most, and their FORCE is 11: that is THROW 97 and what comes ahead of at.
        return States.lone(Cases.JUMPER, 12, 3).andThen(x -> {
            x.theirs(3, 1, 0);
            for (int i = 0; i < 6; i++) {
                x.call(i, i == at ? 3 : 0);
            }
        });
    }

    private static void known() {
        c.promise(18);
        c.answers("nobody anywhere: 0", States.NEW, LineCalls::known, 0);
        c.answers("one in no PLACE: 0", x -> x.jumper(0, 99), LineCalls::known, 0);
        c.leaves("HIGH 40 against 40: 0", States.lone(Cases.JUMPER, 40, 6), LineCalls::known, 0);
        c.leaves("HIGH 41 against 40: 1", States.lone(Cases.JUMPER, 41, 6), LineCalls::known, 1);
        c.leaves("behind 97", onceInSix(0), LineCalls::known, 97);
        c.leaves("behind 100, the last that counts", onceInSix(3), LineCalls::known, 100);
        c.refused("behind 101: NONE", onceInSix(4), LineCalls::known, Cases.NONE);
        c.refused("never: NONE", States.sure(6), LineCalls::known, Cases.NONE);
        c.answers("a ROOKIE alone when THROW is even: 1", States.lone(Cases.ROOKIE, 99, 6), LineCalls::known, 1);
        c.answers("a ROOKIE alone when THROW is odd: 0", x -> {
            x.go(1);
            States.lone(Cases.ROOKIE, 99, 6).accept(x);
        }, LineCalls::known, 0);
    }
}
