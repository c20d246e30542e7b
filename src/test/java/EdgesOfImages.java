import java.util.Map;
import java.util.function.Consumer;
import java.util.function.ToLongFunction;

/** Promises 42 to 46 at their edges: images, counts, findings. */
public final class EdgesOfImages {
    private static final Cases c = new Cases();

    public static void main(String[] args) {
        image();
        imageLatest();
        undo();
        undoEach();
        undoLeaves();
        tear();
        count();
        countMost();
        status();
        statusOfEach();
        statusOfAll();
        c.end(42, 46);
    }

    /** Whether what is kept is as the line is. */
    private static void keptIsNow(LineCalls x) {
        Map<String, Long> seen = Probe.all(x);
        for (String key : seen.keySet()) {
            // THE TAPE is not kept, and has been read by then.
            if (key.startsWith("kept: ") && !key.equals("kept: count 5")) {
                c.due(seen.get(key), seen.get(key.substring(6)));
            }
        }
        c.due(seen.get("undo"), seen.get("count 0"));
    }

    private static void image() {
        c.promise(42);
        c.answers("of a new object: 1", States.NEW, LineCalls::image, 1);
        c.answers("when one is kept already: 1", States.BUSY, LineCalls::image, 1);
        c.test("all of the line is kept", () -> {
            LineCalls x = Cases.made(States.BUSY);
            x.image();
            keptIsNow(x);
        });
        c.test("all of eight JUMPERS is kept", () -> {
            LineCalls x = Cases.made(States.CROWD);
            for (int j = 0; j < 8; j++) {
                x.change(j, 2, 90 + j);
                x.change(j, 3, 9990 + j);
                x.change(j, 4, 9980 + j);
            }
            x.image();
            keptIsNow(x);
        });
        c.changes("the line stays as it is", States.NEW, LineCalls::image, 1, keptOfNew());
        c.answers("THE TAPE stays as it is", States.BUSY.andThen(LineCalls::image), x -> x.count(5), 16);
        c.answers("the SHEETS stay as they are", States.BUSY.andThen(LineCalls::image), x -> x.judge(1), 1);
    }

    private static String[] keptOfNew() {
        LineCalls x = new LineCalls();
        x.image();
        Map<String, Long> seen = Probe.all(x);
        return seen.keySet().stream().filter(key -> key.startsWith("kept: ") || key.equals("undo"))
            .map(key -> key + "=" + seen.get(key.equals("undo") ? "count 0" : key.substring(6))).toArray(String[]::new);
    }

    private static void imageLatest() {
        c.test("what was kept latest counts", () -> {
            LineCalls x = new LineCalls();
            x.go(1);
            x.image();
            x.go(1);
            x.image();
            x.go(1);
            c.due(x.undo(), 2);
            c.due(x.undo(), 2);
        });
        c.test("later changes are not kept", () -> {
            LineCalls x = new LineCalls();
            x.image();
            x.call(3, 999);
            x.set(1, 9);
            x.seed(8);
            c.due(x.undo(), 0);
            c.due(x.listed(3), 33);
            c.due(x.set(1, 0), 0);
            c.due(x.count(6), 1);
        });
        c.test("an image of what was undone", () -> {
            LineCalls x = new LineCalls();
            x.image();
            x.go(9);
            x.undo();
            x.go(2);
            c.due(x.image(), 1);
            x.go(3);
            c.due(x.undo(), 2);
        });
    }

    private static void undo() {
        c.promise(43);
        c.refused("nothing is kept: NONE", States.NEW, LineCalls::undo, Cases.NONE);
        c.refused("nothing is kept any more: NONE", States.BUSY.andThen(LineCalls::tear), LineCalls::undo, Cases.NONE);
        c.answers("THROW that was kept: 0", States.BUSY, LineCalls::undo, 0);
        c.answers("THROW that was kept: 60", x -> {
            x.go(60);
            x.image();
            x.go(60);
        }, LineCalls::undo, 60);
        c.test("all of the line becomes what was kept", () -> {
            Map<String, Long> before = Probe.all(Cases.made(States.BUSY));
            LineCalls x = Cases.made(States.BUSY);
            x.undo();
            Map<String, Long> seen = Probe.all(x);
            for (String key : before.keySet()) {
                if (key.startsWith("kept: ") && !key.equals("kept: count 5")) {
                    c.due(seen.get(key.substring(6)), before.get(key));
                }
            }
        });
        c.test("it stays: once more", () -> {
            LineCalls x = new LineCalls();
            x.image();
            for (int i = 0; i < 3; i++) {
                x.go(5);
                x.jumper(0, 5);
                c.due(x.undo(), 0);
                c.due(x.count(1), 0);
            }
        });
        c.leaves("of what is as it was kept: nothing changes", States.BUSY.andThen(LineCalls::image), LineCalls::undo, 1);
        c.refused("JUMPERS that came later are none", States.BUSY.andThen(LineCalls::undo), x -> x.of(5, 0), Cases.BEYOND);
        c.answers("JUMPERS that were there are there", States.BUSY.andThen(LineCalls::undo), x -> x.of(4, 0), Cases.FLANKER);
    }

    private static void undone(String name, Consumer<LineCalls> act, ToLongFunction<LineCalls> asked) {
        c.test(name + " is undone", () -> {
            long was = asked.applyAsLong(Cases.made(States.BUSY));
            LineCalls x = Cases.made(States.BUSY);
            x.image();
            act.accept(x);
            x.undo();
            c.due(asked.applyAsLong(x), was);
        });
    }

    private static void undoEach() {
        undone("who stands where", x -> x.stand(0, 5), x -> x.place(0, 0));
        undone("who stands nowhere", x -> x.stand(6, -1), x -> x.of(4, 7));
        undone("how high THEIRS are", x -> x.theirs(6, 1, 1), x -> x.place(6, 1));
        undone("how well they READ", x -> x.theirs(2, 2, 1), x -> x.place(2, 2));
        undone("WIND", x -> x.set(0, 9), x -> x.set(0, 0));
        undone("WET", x -> x.set(1, 9), x -> x.set(1, 0));
        undone("CODE", x -> x.set(2, 4), x -> x.set(2, 0));
        undone("the first CALL", x -> x.call(0, 9), x -> x.listed(0));
        undone("the last CALL", x -> x.call(5, 9), x -> x.listed(5));
        undone("CALLS of a sheet", x -> x.load(1), x -> x.listed(3));
        undone("a new JUMPER", x -> x.jumper(0, 9), x -> x.count(1));
        for (int what = 0; what < 5; what++) {
            int asked = what;
            undone("what " + what + " of the first JUMPER", x -> x.change(0, asked, 1), x -> x.of(0, asked));
            undone("what " + what + " of the last JUMPER", x -> x.change(5, asked, 1), x -> x.of(5, asked));
        }
        undone("THROW", x -> x.go(2), x -> x.count(0));
        undone("METRES", x -> x.go(2), x -> x.count(2));
        undone("z", x -> x.mix(2), x -> x.count(6));
        undone("z by a seed", x -> x.seed(2), x -> x.count(6));
        undone("the first SPOT", x -> x.hold(0, 1), x -> x.as(0, 0));
        undone("the last SPOT", x -> x.hold(9, -1), x -> x.as(9, 0));
        undone("a TEXT", LineCalls::text, x -> x.listed(3));
    }

    private static void undoLeaves() {
        c.answers("THE TAPE stays", States.BUSY.andThen(x -> x.feed(32, 4)).andThen(LineCalls::undo), x -> x.count(5), 20);
        c.answers("THE TAPE's bytes stay", States.BUSY.andThen(LineCalls::undo), LineCalls::text, 2);
        c.answers("THE TAPE that was wiped stays empty", States.BUSY.andThen(LineCalls::wipe).andThen(LineCalls::undo), x -> x.count(5), 0);
        c.answers("a SHEET that came later stays", States.BUSY.andThen(x -> x.sheet(3, 8, 2)).andThen(LineCalls::undo), x -> x.load(3), 2);
        c.answers("a SHEET that was MISSING later stays so", States.BUSY.andThen(x -> x.sheet(0, 0, 0)).andThen(LineCalls::undo),
            x -> x.load(0), Cases.MISSING);
        c.test("a number that was written later stays", () -> {
            LineCalls x = Cases.made(States.BUSY);
            x.image();
            x.write(0, 0, 99);
            x.undo();
            x.load(0);
            c.due(x.listed(0), 99);
        });
        c.test("findings stay counted", () -> {
            LineCalls x = Cases.made(States.BUSY);
            int before = x.status(-1);
            x.image();
            x.go(0);
            x.load(3);
            x.undo();
            c.due(x.status(-1), before + 2);
            c.due(x.status(5), 1);
        });
    }

    private static void tear() {
        c.promise(44);
        c.leaves("nothing is kept: 0", States.NEW, LineCalls::tear, 0);
        c.answers("something is kept: 1", States.BUSY, LineCalls::tear, 1);
        c.leaves("nothing is kept any more: 0", States.BUSY.andThen(LineCalls::tear), LineCalls::tear, 0);
        c.answers("two images are torn by one", States.BUSY.andThen(LineCalls::image).andThen(LineCalls::tear), LineCalls::tear, 0);
        c.answers("behind undo() it is still kept: 1", States.BUSY.andThen(LineCalls::undo), LineCalls::tear, 1);
        c.answers("a later image is kept again: 1", States.BUSY.andThen(LineCalls::tear).andThen(LineCalls::image), LineCalls::tear, 1);
        c.test("the line, THE TAPE and the SHEETS stay", () -> {
            Map<String, Long> before = Probe.all(Cases.made(States.BUSY));
            LineCalls x = Cases.made(States.BUSY);
            x.tear();
            Map<String, Long> seen = Probe.all(x);
            c.due(seen.get("undo"), Cases.NONE);
            for (String key : before.keySet()) {
                if (!key.startsWith("kept: ") && !key.equals("undo")) {
                    c.due(seen.get(key), before.get(key));
                }
            }
        });
    }

    private static void count() {
        c.promise(45);
        c.ends("what", States.BUSY, (x, v) -> x.count(v), 0, 1, 7, 2);
        int[] due = {1, 6, 7, 5, 5, 16, 4711, 2};
        for (int what = 0; what < 8; what++) {
            int asked = what;
            c.leaves("what " + what + " is told and nothing changes", States.BUSY, x -> x.count(asked), due[what]);
            c.answers("what " + what + " of a new object", States.NEW, x -> x.count(asked), what == 6 ? 1 : 0);
        }
    }

    private static void countMost() {
        Consumer<LineCalls> most = States.CROWD.andThen(x -> {
            for (int j = 0; j < 8; j++) {
                x.change(j, 3, 9999);
                x.change(j, 4, 9999);
            }
            States.feed(x, " ".repeat(120));
        });
        c.answers("JUMPERS: 8", most, x -> x.count(1), 8);
        c.answers("METRES: 99999", States.thrown(States.sure(6), 7700), x -> x.count(2), 99999);
        c.answers("WON of all together: 79992", most, x -> x.count(3), 79992);
        c.answers("LOST of all together: 79992", most, x -> x.count(4), 79992);
        c.answers("bytes: 120", most, x -> x.count(5), 120);
        c.leaves("z as a finding's number is no finding", x -> x.seed(Cases.BEYOND), x -> x.count(6), Cases.BEYOND);
        c.answers("z: the least int", x -> x.seed(Integer.MIN_VALUE), x -> x.count(6), Integer.MIN_VALUE);
        c.answers("SPOTS: 10, though two hold the same", most, x -> x.count(7), 10);
    }

    private static void status() {
        c.promise(46);
        c.ends("which", States.NEW, (x, v) -> x.status(v), -1, 0, 6, 0);
        c.leaves("all of BUSY, and nothing changes", States.BUSY, x -> x.status(-1), 2);
        c.test("another one is BEYOND, counted from then on", () -> {
            LineCalls x = new LineCalls();
            c.due(x.status(7), Cases.BEYOND);
            c.due(x.status(0), 1);
            c.due(x.status(-1), 1);
            c.due(x.status(-2), Cases.BEYOND);
            c.due(x.status(0), 2);
            c.due(x.status(-1), 2);
        });
        c.test("500 findings are counted", () -> {
            LineCalls x = new LineCalls();
            for (int i = 0; i < 500; i++) {
                x.go(0);
            }
            c.due(x.status(0), 500);
            c.due(x.status(-1), 500);
        });
    }

    private static void statusOfEach() {
        String[] names = {"BEYOND", "FULL", "KIND", "NONE", "STATE", "MISSING", "SIZE"};
        for (int k = 0; k < 7; k++) {
            if (k == 4) {
                continue;
            }
            int which = k;
            c.test(names[k] + " is counted as " + k + " and in all, not as another", () -> {
                LineCalls x = Cases.made(States.CROWD);
                c.due(found(x, which), Cases.BEYOND - which);
                for (int asked = 0; asked < 7; asked++) {
                    c.due(x.status(asked), asked == which ? 1 : 0);
                }
                c.due(x.status(-1), 1);
            });
        }
        // Behind call 512 alone.
        c.test("STATE is counted as 4 and in all, not as another", () -> {
            LineCalls x = Cases.made(States.thrown(States.NEW, 99960));
            c.due(x.go(60), Cases.STATE);
            for (int asked = 0; asked < 7; asked++) {
                c.due(x.status(asked), asked == 4 ? 1 : 0);
            }
            c.due(x.status(-1), 1);
        });
    }

    /** A call on CROWD that answers a finding. */
    private static int found(LineCalls x, int which) {
        switch (which) {
            case 0: return x.listed(6);
            case 1: return x.jumper(0, 50);
            case 2: return x.as(0, 6);
            case 3: return x.undo();
            case 5: return x.load(0);
            default: return x.sheet(0, 8, -1);
        }
    }

    private static void statusOfAll() {
        c.test("the finding of a long is counted", () -> {
            LineCalls x = new LineCalls();
            c.due(x.odds(7, 0, 0), -1000001L);
            c.due(x.status(0), 1);
        });
        c.test("a FAULT of a TEXT is not counted", () -> {
            LineCalls x = new LineCalls();
            c.due(x.text(), -1);
            c.due(x.status(-1), 0);
        });
        c.test("-1 for nobody is not counted", () -> {
            LineCalls x = new LineCalls();
            c.due(x.stand(0, -1), -1);
            c.due(x.place(0, 0), -1);
            c.due(x.status(-1), 0);
        });
        c.test("each of a call's findings counts once", () -> {
            LineCalls x = new LineCalls();
            x.copy(4, -1, 9, -1, -1);
            x.tallFor(9, -1, -1);
            c.due(x.status(-1), 2);
        });
        c.test("undo() takes none back", () -> {
            LineCalls x = new LineCalls();
            x.listed(6);
            x.image();
            x.load(0);
            x.undo();
            c.due(x.status(-1), 2);
            c.due(x.status(0), 1);
            c.due(x.status(5), 1);
        });
        c.test("tear() takes none back", () -> {
            LineCalls x = new LineCalls();
            x.image();
            x.load(0);
            x.tear();
            c.due(x.status(-1), 1);
        });
    }
}
