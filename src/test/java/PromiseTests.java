/** For each promise of the document: ordinary inputs, the edges that it names, and wrong inputs. */
public final class PromiseTests {
    private static final int BEYOND = -1000001;
    private static final int FULL = -1000002;
    private static final int KIND = -1000003;
    private static final int NONE = -1000004;
    private static final int STATE = -1000005;
    private static final int MISSING = -1000006;
    private static final int SIZE = -1000007;
    private static final int JUMPER = 0, PROP = 1, LOCK = 2, TOWER = 3, GIANT = 4, ROOKIE = 5, FLANKER = 6;
    private static final int LEAST = Integer.MIN_VALUE, MOST = Integer.MAX_VALUE;

    private static int promise = 0;
    private static int row = 0;
    private static int passed = 0;
    private static int failed = 0;

    private static void promise(int number) {
        promise = number;
        row = 0;
    }

    private static void due(long got, long want) {
        row++;
        if (got == want) {
            passed++;
        } else {
            failed++;
            System.out.println("promise " + promise + ", row " + row + ": answered " + got + ", due is " + want
                + " (line " + Thread.currentThread().getStackTrace()[2].getLineNumber() + ")");
        }
    }

    private static void feed(LineCalls x, String text) {
        for (int i = 0; i < text.length(); i++) {
            x.feed(text.charAt(i), 1);
        }
    }

    private static int text(LineCalls x, String text) {
        feed(x, text);
        return x.text();
    }

    private static void numbers(LineCalls x, int s, int bits, int... row) {
        x.sheet(s, bits, row.length);
        for (int i = 0; i < row.length; i++) {
            x.write(s, i, row[i]);
        }
    }

    /** All six CALLS say one PLACE, in which a JUMPER of a kind stands. */
    private static LineCalls lone(int kind, int tall, int place) {
        LineCalls x = new LineCalls();
        x.jumper(kind, tall);
        x.stand(place, 0);
        for (int i = 0; i < 6; i++) {
            x.call(i, place);
        }
        return x;
    }

    public static void main(String[] args) {
        line();
        jumpers();
        rules();
        ahead();
        plans();
        toldEnds();
        draws();
        texts();
        moreTexts();
        spots();
        sheets();
        images();
        System.out.println(passed + " passed, " + failed + " failed");
        if (failed != 0) {
            System.exit(1);
        }
    }

    private static void line() {
        promise(1);
        LineCalls x = new LineCalls();
        for (int p = 0; p < 7; p++) {
            due(x.place(p, 0), -1);
            due(x.place(p, 1), 40);
            due(x.place(p, 2), 0);
            due(x.place(p, 3), 40);
        }
        for (int i = 0; i < 6; i++) {
            due(x.listed(i), 11 * i);
        }
        for (int what = 0; what < 8; what++) {
            due(x.count(what), what == 6 ? 1 : 0);
        }
        for (int what = 0; what < 3; what++) {
            due(x.set(what, 0), 0);
        }
        due(x.judge(0), MISSING);
        due(x.judge(3), MISSING);
        due(x.as(0, 0), MISSING);
        due(x.as(9, 0), MISSING);
        due(x.undo(), NONE);
        due(x.status(-1), 5);

        promise(2);
        x = new LineCalls();
        x.jumper(JUMPER, 50);
        x.jumper(LOCK, 50);
        due(x.stand(3, 0), -1);
        due(x.stand(3, 0), 0);
        due(x.place(3, 0), 0);
        due(x.stand(3, 1), 0);
        due(x.of(0, 7), -1);
        due(x.stand(6, 1), -1);
        due(x.place(3, 0), -1);
        due(x.of(1, 7), 6);
        due(x.stand(6, -1), 1);
        due(x.stand(6, -1), -1);
        due(x.of(1, 7), -1);
        due(x.stand(0, 0), -1);
        due(x.stand(1, 0), -1);
        due(x.place(0, 0), -1);
        due(x.stand(0, 0), -1);
        due(x.place(1, 0), -1);
        due(x.stand(-1, 0), BEYOND);
        due(x.stand(7, 0), BEYOND);
        due(x.stand(0, 2), BEYOND);
        due(x.stand(0, -2), BEYOND);
        due(x.place(0, 0), 0);

        promise(3);
        x.theirs(2, 1, 61);
        x.theirs(2, 2, 15);
        due(x.place(2, 0), -1);
        due(x.place(2, 1), 61);
        due(x.place(2, 2), 15);
        due(x.place(2, 3), 68);
        due(x.place(-1, 0), BEYOND);
        due(x.place(7, 0), BEYOND);
        due(x.place(0, -1), BEYOND);
        due(x.place(0, 4), BEYOND);

        promise(4);
        due(x.theirs(2, 1, 0), 61);
        due(x.theirs(2, 1, 99), 0);
        due(x.theirs(2, 2, 99), 15);
        due(x.place(2, 3), 148);
        due(x.theirs(2, 1, 100), BEYOND);
        due(x.theirs(2, 2, 100), BEYOND);
        due(x.theirs(2, 2, -1), BEYOND);
        due(x.theirs(2, 0, 1), BEYOND);
        due(x.theirs(2, 3, 1), BEYOND);
        due(x.theirs(7, 1, 1), BEYOND);
        due(x.theirs(-1, 1, 1), BEYOND);
        due(x.place(2, 1), 99);

        promise(5);
        due(x.set(0, 9), 0);
        due(x.set(0, 3), 9);
        due(x.set(1, 9), 0);
        due(x.set(1, 4), 9);
        due(x.set(2, 4), 0);
        due(x.set(2, 1), 4);
        due(x.set(0, 10), BEYOND);
        due(x.set(1, 10), BEYOND);
        due(x.set(2, 5), BEYOND);
        due(x.set(0, -1), BEYOND);
        due(x.set(-1, 0), BEYOND);
        due(x.set(3, 0), BEYOND);
        due(x.set(0, 0), 3);
        due(x.set(1, 0), 4);
        due(x.set(2, 0), 1);

        promise(6);
        due(x.call(5, 999), 55);
        due(x.call(5, 0), 999);
        due(x.call(0, 7), 0);
        due(x.call(6, 0), BEYOND);
        due(x.call(-1, 0), BEYOND);
        due(x.call(0, 1000), BEYOND);
        due(x.call(0, -1), BEYOND);

        promise(7);
        due(x.listed(0), 7);
        due(x.listed(5), 0);
        due(x.listed(4), 44);
        due(x.listed(6), BEYOND);
        due(x.listed(-1), BEYOND);

        promise(8);
        due(x.says(0, 0), 0);
        due(x.says(16, 0), 6);
        due(x.says(17, 0), 0);
        due(x.says(999, 0), 2);
        due(x.says(124, 1), 0);
        due(x.says(999, 1), 6);
        due(x.says(59, 1), 0);
        due(x.says(99, 2), 0);
        due(x.says(100, 2), 1);
        due(x.says(699, 2), 6);
        due(x.says(700, 2), 0);
        due(x.says(999, 2), 2);
        due(x.says(201, 3), 0);
        due(x.says(231, 3), 0);
        due(x.says(230, 3), 3);
        due(x.says(10, 3), 3);
        due(x.says(8, 3), 6);
        due(x.says(320, 3), 6);
        due(x.says(0, 4), 0);
        due(x.says(63, 4), 6);
        due(x.says(127, 4), 0);
        due(x.says(511, 4), 2);
        due(x.says(959, 4), 2);
        due(x.says(999, 4), 1);
        due(x.says(1000, 0), BEYOND);
        due(x.says(-1, 0), BEYOND);
        due(x.says(0, 5), BEYOND);
        due(x.says(0, -1), BEYOND);
    }

    private static void jumpers() {
        promise(9);
        LineCalls x = new LineCalls();
        due(x.jumper(7, 0), BEYOND);
        due(x.jumper(-1, 0), BEYOND);
        due(x.jumper(0, -1), BEYOND);
        due(x.jumper(0, 100), BEYOND);
        for (int i = 0; i < 8; i++) {
            due(x.jumper(Math.min(i, 6), i == 7 ? 99 : 60), i);
        }
        due(x.jumper(0, 0), FULL);
        due(x.jumper(7, 0), BEYOND);
        due(x.count(1), 8);

        promise(10);
        for (int i = 0; i < 7; i++) {
            x.change(i, 2, 19);
            due(x.of(i, 0), i);
            due(x.of(i, 1), 60);
            due(x.of(i, 2), 19);
            due(x.of(i, 3), 0);
            due(x.of(i, 4), 0);
            due(x.of(i, 7), -1);
        }
        x.set(0, 7);
        x.set(1, 6);
        // TALL 60 and TIRED 19 make a plain JUMPER 56 HIGH.
        int[] high = {56, 28, 66, 64, 74, 56, 52};
        int[] tires = {5, 8, 4, 4, 8, 11, 2};
        for (int i = 0; i < 7; i++) {
            due(x.of(i, 5), high[i]);
            due(x.of(i, 6), tires[i]);
        }
        x.change(GIANT, 2, 20);
        due(x.of(GIANT, 5), 63);
        x.change(PROP, 2, 20);
        due(x.of(PROP, 5), 27);
        x.change(JUMPER, 1, 24);
        x.change(JUMPER, 2, 99);
        due(x.of(JUMPER, 5), 0);
        x.change(JUMPER, 1, 23);
        due(x.of(JUMPER, 5), 0);
        x.change(LOCK, 1, 23);
        x.change(LOCK, 2, 99);
        due(x.of(LOCK, 5), 10);
        x.change(FLANKER, 1, 3);
        x.change(FLANKER, 2, 99);
        due(x.of(FLANKER, 5), 24);
        x.go(1);
        due(x.of(ROOKIE, 5), 0);
        x.go(1);
        due(x.of(ROOKIE, 5), 57);
        due(x.of(8, 0), BEYOND);
        due(x.of(-1, 0), BEYOND);
        due(x.of(0, 8), BEYOND);
        due(x.of(0, -1), BEYOND);

        promise(11);
        x = new LineCalls();
        x.jumper(ROOKIE, 50);
        due(x.change(0, 0, 6), 5);
        due(x.of(0, 0), 6);
        due(x.change(0, 1, 99), 50);
        due(x.change(0, 1, 0), 99);
        due(x.change(0, 2, 99), 0);
        due(x.change(0, 2, 1), 99);
        due(x.change(0, 3, 9999), 0);
        due(x.change(0, 3, 2), 9999);
        due(x.change(0, 4, 9999), 0);
        due(x.change(0, 4, 3), 9999);
        due(x.change(0, 0, 7), BEYOND);
        due(x.change(0, 1, 100), BEYOND);
        due(x.change(0, 2, 100), BEYOND);
        due(x.change(0, 3, 10000), BEYOND);
        due(x.change(0, 4, 10000), BEYOND);
        for (int what = 0; what < 5; what++) {
            due(x.change(0, what, -1), BEYOND);
        }
        due(x.change(0, 5, 0), BEYOND);
        due(x.change(0, -1, 0), BEYOND);
        due(x.change(1, 1, 0), BEYOND);
        due(x.of(0, 2), 1);
        due(x.of(0, 3), 2);
        due(x.of(0, 4), 3);

        promise(12);
        x = new LineCalls();
        for (int kind = 0; kind < 7; kind++) {
            x.jumper(kind, 50);
        }
        x.set(0, 4);
        int[] inFront = {0, 1, 2, 2, 0, 0, 1};
        int[] inFive = {5, 1, 7, 7, 3, 5, 11};
        for (int kind = 0; kind < 7; kind++) {
            due(x.gains(kind, 0), inFront[kind]);
            due(x.gains(kind, 5), inFive[kind]);
        }
        due(x.gains(7, 0), BEYOND);
        due(x.gains(-1, 0), BEYOND);
        due(x.gains(0, 7), BEYOND);
        due(x.gains(0, -1), BEYOND);
    }

    private static void rules() {
        promise(13);
        LineCalls x = lone(LOCK, 35, 4);
        x.jumper(JUMPER, 10);
        x.jumper(JUMPER, 10);
        x.change(1, 2, 7);
        x.change(2, 2, 1);
        x.stand(0, 1);
        x.theirs(0, 2, 1);
        x.theirs(1, 2, 3);
        // HIGH 45 above 40: won; then 44 above 43 (TIRED 4, READ 6); then 43 not above 46.
        due(x.go(1), 6);
        due(x.of(0, 2), 4);
        due(x.of(0, 3), 1);
        due(x.of(1, 2), 5);
        due(x.of(2, 2), 0);
        due(x.place(4, 2), 6);
        due(x.place(0, 2), 0);
        due(x.place(1, 2), 2);
        due(x.go(2), 9);
        due(x.of(0, 2), 12);
        due(x.of(0, 3), 2);
        due(x.of(0, 4), 1);
        due(x.place(4, 2), 18);
        due(x.now(0), 3);
        due(x.go(60), 0);
        due(x.of(0, 2), 99);
        due(x.place(4, 2), 99);
        due(x.go(0), BEYOND);
        due(x.go(-1), BEYOND);
        due(x.go(61), BEYOND);
        // As high as they are is not enough.
        x = lone(JUMPER, 40, 6);
        due(x.go(1), 0);
        due(x.of(0, 4), 1);
        // To nobody: 5 less; all others rest.
        x = lone(JUMPER, 99, 6);
        due(x.go(2), 12);
        x.stand(0, 0);
        due(x.go(1), 7);
        due(x.of(0, 2), 8);
        due(x.go(2), 0);
        due(x.of(0, 3), 2);
        due(x.of(0, 4), 0);
        // WON and LOST end at 9999.
        x = lone(JUMPER, 99, 6);
        x.change(0, 3, 9999);
        x.change(0, 4, 9998);
        due(x.go(1), 6);
        due(x.of(0, 3), 9999);
        x.change(0, 1, 0);
        due(x.go(2), 0);
        due(x.of(0, 4), 9999);
        // METRES end at 99999.
        x = lone(FLANKER, 99, 6);
        x.theirs(6, 1, 0);
        int metres = 0;
        for (int i = 0; i < 130; i++) {
            metres = x.go(60);
        }
        due(metres, 99999);
        due(x.metres(1), 99999);
        due(x.of(0, 3), 7800);
        // THE LIST goes round by THROW modulo 6.
        x = new LineCalls();
        for (int i = 0; i < 13; i++) {
            due(x.now(4), i % 6);
            x.go(1);
        }
        // The document promises nothing behind call 512, but STATE can be seen only there.
        x = new LineCalls();
        for (int i = 0; i < 1666; i++) {
            x.go(60);
        }
        due(x.go(40), STATE);
        due(x.mix(20), 0);
        due(x.go(20), STATE);
        due(x.mix(20), STATE);
        x.image();
        due(x.go(19), 0);
        due(x.now(0), 99999);
        due(x.undo(), 99980);
        due(x.mix(19), 0);
        due(x.mix(1), STATE);
        due(x.go(1), STATE);
        due(x.now(0), 99999);
        due(x.metres(3), 0);
        due(x.status(4), 5);
        // A ROOKIE is 0 HIGH at each odd THROW, and tires by WET too.
        x = lone(ROOKIE, 99, 5);
        x.set(1, 3);
        due(x.go(1), 5);
        due(x.go(1), 2);
        due(x.go(1), 7);
        due(x.of(0, 2), 24);
        due(x.of(0, 5), 0);

        promise(14);
        x = lone(JUMPER, 50, 2);
        x.jumper(JUMPER, 41);
        x.jumper(JUMPER, 40);
        x.stand(5, 1);
        x.stand(6, 2);
        due(x.now(5), 4 + 32);
        due(x.now(6), 4);
        x.go(4);
        // HIGH 50, 49, 48 above 40, 43, 46: won; then 47 not above 49.
        due(x.now(0), 4);
        due(x.now(1), 3);
        due(x.now(2), 3);
        due(x.now(3), 1);
        due(x.now(4), 2);
        due(x.now(5), 32);
        x.change(1, 3, 100);
        x.change(2, 4, 1000);
        due(x.now(2), 103);
        due(x.now(3), 1001);
        x.set(2, 3);
        due(x.now(4), 6);
        due(x.now(6), 64);
        x = lone(JUMPER, 50, 0);
        x.call(0, 1);
        due(x.now(5), 1);
        due(x.now(6), 3);
        due(x.now(7), BEYOND);
        due(x.now(-1), BEYOND);
    }

    private static void ahead() {
        promise(15);
        LineCalls x = lone(LOCK, 35, 4);
        due(x.ahead(0, 2, 0), 0);
        due(x.ahead(0, 5, 0), 45);
        due(x.ahead(0, 2, 3), 12);
        due(x.ahead(0, 3, 3), 2);
        due(x.ahead(0, 4, 3), 1);
        due(x.ahead(0, 5, 3), 42);
        due(x.ahead(0, 2, 100), 99);
        due(x.ahead(0, 4, 100), 98);
        due(x.now(0), 0);
        due(x.of(0, 2), 0);
        due(x.place(4, 2), 0);
        due(x.ahead(0, 1, 0), BEYOND);
        due(x.ahead(0, 6, 0), BEYOND);
        due(x.ahead(0, 2, 101), BEYOND);
        due(x.ahead(0, 2, -1), BEYOND);
        due(x.ahead(1, 2, 0), BEYOND);
        LineCalls rookie = lone(ROOKIE, 90, 4);
        due(rookie.ahead(0, 5, 1), 0);
        due(rookie.ahead(0, 5, 2), 88);

        promise(16);
        due(x.metres(0), 0);
        due(x.metres(1), 6);
        due(x.metres(2), 12);
        due(x.metres(3), 9);
        due(x.metres(100), 0);
        due(x.now(1), 0);
        due(x.metres(101), BEYOND);
        due(x.metres(-1), BEYOND);

        promise(17);
        due(x.when(0, 0), 0);
        due(x.when(0, 1), 1);
        due(x.when(0, 2), 2);
        due(x.when(0, 3), NONE);
        due(x.when(0, 9999), NONE);
        due(x.when(0, 10000), BEYOND);
        due(x.when(0, -1), BEYOND);
        due(x.when(1, 0), BEYOND);
        due(x.when(-1, 0), BEYOND);
        LineCalls flanker = lone(FLANKER, 99, 6);
        flanker.theirs(6, 1, 0);
        due(flanker.when(0, 100), 100);
        due(flanker.when(0, 101), NONE);
        due(flanker.now(0), 0);

        promise(18);
        due(x.known(), 2);
        due(new LineCalls().known(), 0);
        due(flanker.known(), NONE);
        // Each sixth THROW is to it; from the 17th such on HIGH 11 is not above their FORCE: THROW 100 if it is the fourth.
        LineCalls sixth = lone(JUMPER, 12, 3);
        sixth.theirs(3, 1, 0);
        for (int i = 0; i < 6; i++) {
            sixth.call(i, i == 3 ? 3 : 0);
        }
        due(sixth.known(), 100);
        sixth.call(3, 0);
        sixth.call(4, 3);
        due(sixth.known(), NONE);
        due(x.now(0), 0);
    }

    private static void plans() {
        promise(19);
        LineCalls x = new LineCalls();
        x.jumper(LOCK, 99);
        x.stand(5, 0);
        x.call(0, 522);
        due(x.codeFor(0), 0);
        due(x.codeFor(1), 2);
        x.call(0, 999);
        due(x.codeFor(1), 0);
        x.call(0, 55);
        x.stand(3, 0);
        due(x.codeFor(1), 1);
        due(x.codeFor(41), BEYOND);
        due(x.codeFor(-1), BEYOND);
        due(x.set(2, 0), 0);

        promise(20);
        x = new LineCalls();
        x.jumper(JUMPER, 99);
        x.stand(6, 0);
        due(x.callFor(0), 0);
        due(x.callFor(1), 6);
        // From now on: the 7th THROW has that CALL too, and 3 more to nobody take all again.
        due(x.callFor(6), 0);
        due(x.callFor(7), 6);
        due(x.callFor(10), 0);
        due(x.listed(0), 0);
        x.set(2, 2);
        due(x.callFor(1), 600);
        x.set(2, 4);
        due(x.callFor(1), 63);
        x.set(2, 1);
        x.stand(0, 0);
        x.change(0, 0, LOCK);
        due(x.callFor(1), 0);
        x.call(0, 3);
        x.go(1);
        due(x.callFor(1), 0);
        due(x.callFor(11), BEYOND);
        due(x.callFor(-1), BEYOND);

        promise(21);
        x = new LineCalls();
        x.jumper(JUMPER, 99);
        x.jumper(JUMPER, 60);
        due(x.standFor(0, 0), 0);
        due(x.standFor(0, 6), 5);
        due(x.of(0, 7), -1);
        // The two change places: who was in 5 wins in 4.
        x.stand(4, 0);
        x.stand(5, 1);
        for (int i = 0; i < 6; i++) {
            x.call(i, i % 2 == 0 ? 4 : 5);
        }
        x.theirs(5, 1, 70);
        due(x.standFor(0, 6), 5);
        due(x.place(4, 0), 0);
        due(x.place(5, 0), 1);
        // Likewise from the front: who was in 5 gains nothing there, but keeps it from being empty.
        x = new LineCalls();
        x.jumper(JUMPER, 99);
        x.jumper(PROP, 99);
        x.stand(0, 0);
        x.stand(5, 1);
        x.call(1, 0);
        x.call(2, 5);
        x.theirs(0, 1, 20);
        x.theirs(5, 1, 60);
        due(x.standFor(0, 3), 5);
        // 7 metres in 5, but then 3 less twice in front; else nothing in 5, and twice 2 in front.
        x.change(0, 0, LOCK);
        x.change(1, 1, 10);
        x.call(0, 5);
        x.call(2, 0);
        x.theirs(0, 1, 40);
        due(x.standFor(0, 3), 0);
        // From nowhere: who stood there comes to none.
        x = new LineCalls();
        x.jumper(LOCK, 99);
        x.jumper(JUMPER, 99);
        x.stand(5, 0);
        due(x.standFor(1, 6), 4);
        due(x.standFor(2, 0), BEYOND);
        due(x.standFor(-1, 0), BEYOND);
        due(x.standFor(0, 41), BEYOND);
        due(x.standFor(0, -1), BEYOND);

        promise(22);
        x = lone(PROP, 38, 3);
        due(x.kindFor(0, 0), 0);
        due(x.kindFor(0, 1), 2);
        // A TOWER wins 4 times (13 above 4 times as many), a GIANT 3 times, until it is TIRED, a LOCK twice.
        due(x.kindFor(0, 40), 3);
        due(x.kindFor(0, 3), 3);
        due(x.kindFor(0, 2), 2);
        due(x.of(0, 0), PROP);
        x.change(0, 1, 0);
        due(x.kindFor(0, 40), 0);
        x.theirs(3, 1, 29);
        due(x.kindFor(0, 40), 6);
        due(x.kindFor(1, 0), BEYOND);
        due(x.kindFor(0, 41), BEYOND);
        due(x.kindFor(0, -1), BEYOND);

        promise(23);
        x = lone(JUMPER, 38, 3);
        due(x.tallFor(0, 0, 0), 0);
        due(x.tallFor(0, 1, 0), NONE);
        due(x.tallFor(0, 1, 1), 41);
        due(x.tallFor(0, 2, 2), 45);
        due(x.tallFor(0, 1, 40), 41);
        due(x.tallFor(0, 9999, 40), NONE);
        x.change(0, 3, 9998);
        due(x.tallFor(0, 9999, 1), 41);
        x.theirs(3, 1, 98);
        due(x.tallFor(0, 9999, 1), 99);
        x.theirs(3, 1, 99);
        due(x.tallFor(0, 9999, 1), NONE);
        x.theirs(3, 1, 40);
        due(x.of(0, 1), 38);
        due(x.tallFor(0, 10000, 0), BEYOND);
        due(x.tallFor(0, -1, 0), BEYOND);
        due(x.tallFor(0, 0, 41), BEYOND);
        due(x.tallFor(0, 0, -1), BEYOND);
        due(x.tallFor(1, 0, 0), BEYOND);

        promise(24);
        x = new LineCalls();
        due(x.cover(), 63);
        x.call(0, 15);
        due(x.cover(), 31);
        x.call(3, 4);
        due(x.cover(), 15);
        x.set(2, 2);
        due(x.cover(), 1);
    }

    private static void toldEnds() {
        promise(25);
        LineCalls x = new LineCalls();
        x.jumper(LOCK, 60);
        x.stand(5, 0);
        x.call(0, 522);
        numbers(x, 0, 16, 0, 7, 2);
        due(x.codes(0), 4);
        numbers(x, 0, 16, -1, -1, -1);
        due(x.codes(0), 31);
        numbers(x, 0, 16, 1);
        due(x.codes(0), 0);
        numbers(x, 0, 8, 0, 255, 0);
        due(x.codes(0), 27);
        x.sheet(0, 32, 0);
        due(x.codes(0), 31);
        due(x.codes(1), MISSING);
        due(x.codes(4), BEYOND);
        due(x.codes(-1), BEYOND);
        due(x.now(0), 0);

        promise(26);
        x = lone(JUMPER, 10, 5);
        numbers(x, 2, 32, 0, 5);
        due(x.fits(2, 0), 59);
        numbers(x, 2, 32, 0, 5, 2);
        due(x.fits(2, 0), 4);
        numbers(x, 2, 32, 0, -1, -1);
        due(x.fits(2, 0), 100);
        numbers(x, 2, 32, 0, 4);
        due(x.fits(2, 0), 0);
        due(x.fits(2, 1), BEYOND);
        due(x.fits(2, -1), BEYOND);
        due(x.fits(1, 1), MISSING);
        due(x.fits(4, 1), BEYOND);
        due(x.of(0, 1), 10);

        promise(27);
        due(x.tall(2, 0), NONE);
        numbers(x, 2, 32, 0, 5);
        due(x.tall(2, 0), 41);
        numbers(x, 2, 32, 0, 5, 10);
        due(x.tall(2, 0), 45);
        x.theirs(5, 1, 98);
        numbers(x, 2, 32, 0, 5);
        due(x.tall(2, 0), 99);
        due(x.fits(2, 0), 1);
        x.theirs(5, 1, 99);
        due(x.tall(2, 0), NONE);
        numbers(x, 2, 32, -1, 0);
        due(x.tall(2, 0), 0);
        due(x.tall(2, 1), BEYOND);
        due(x.tall(1, 1), MISSING);
        due(x.tall(4, 0), BEYOND);
        due(x.tall(-1, 0), BEYOND);

        promise(28);
        x = lone(PROP, 38, 3);
        numbers(x, 3, 8, 0, 5);
        due(x.kinds(3, 0), 4 + 8 + 16);
        numbers(x, 3, 8, 0, 7);
        due(x.kinds(3, 0), 64);
        numbers(x, 3, 8, 0, 0);
        due(x.kinds(3, 0), 1 + 2 + 32);
        x.sheet(3, 8, 0);
        due(x.kinds(3, 0), 127);
        due(x.kinds(3, 1), BEYOND);
        due(x.kinds(2, 1), MISSING);
        due(x.kinds(4, 0), BEYOND);
        due(x.kinds(-1, 0), BEYOND);
        due(x.of(0, 0), PROP);
    }

    private static void draws() {
        promise(29);
        LineCalls x = new LineCalls();
        int z = 1 * 1103515245 + 12345;
        int first = (z >>> 8) % 1000;
        z = z * 1103515245 + 12345;
        int second = (z >>> 8) % 10;
        due(x.mix(1), 0);
        due(x.listed(0), first);
        due(x.set(0, 0), second);
        due(x.count(6), z);
        due(x.now(0), 1);
        z = z * 1103515245 + 12345;
        first = (z >>> 8) % 1000;
        x.mix(1);
        due(x.listed(1), first);
        // The new WIND blows at the very THROW.
        x = new LineCalls();
        x.jumper(TOWER, 0);
        x.stand(x.says((1103527590 >>> 8) % 1000, 0), 0);
        x.theirs(x.of(0, 7), 1, 14);
        x.mix(1);
        due(x.set(0, 0), (1103527590 * 1103515245 + 12345 >>> 8) % 10);
        due(x.now(2), 0);
        due(x.now(3), 1);
        x = new LineCalls();
        LineCalls y = new LineCalls();
        for (int i = 0; i < 20; i++) {
            x.mix(1);
        }
        y.mix(20);
        due(y.count(6), x.count(6));
        due(y.now(0), 20);
        due(x.mix(0), BEYOND);
        due(x.mix(21), BEYOND);
        due(x.mix(-1), BEYOND);

        promise(30);
        x = new LineCalls();
        due(x.odds(0, 0, 0), 1);
        due(x.odds(0, 0, 1), 1);
        due(x.odds(0, 1, 0), 1);
        due(x.odds(0, 1, 1), 5);
        due(x.odds(3, 6, 0), 1);
        due(x.odds(3, 6, 1), 1000000);
        x.set(2, 3);
        due(x.odds(1, 1, 0), 0);
        due(x.odds(1, 6, 1), 1);
        due(x.odds(1, 0, 0), 1);
        due(x.odds(3, 2, 0), 1);
        due(x.odds(3, 2, 1), 16);
        x.set(2, 1);
        due(x.odds(6, 6, 0), 117649);
        due(x.odds(6, 6, 1), 15625000000L);
        due(x.odds(1, 6, 0), 128100283921L);
        due(x.odds(1, 6, 1), 15625000000000000L);
        due(x.odds(7, 0, 0), BEYOND);
        due(x.odds(-1, 0, 0), BEYOND);
        due(x.odds(0, 7, 0), BEYOND);
        due(x.odds(0, -1, 0), BEYOND);
        due(x.odds(0, 0, 2), BEYOND);
        due(x.odds(0, 0, -1), BEYOND);

        promise(31);
        due(x.seed(LEAST), 1);
        due(x.seed(-1000001), LEAST);
        due(x.seed(7), -1000001);
        due(x.count(6), 7);
        due(x.status(-1), 6);
    }

    private static void texts() {
        promise(32);
        LineCalls x = new LineCalls();
        due(x.feed('w' << 16 | 'e' << 8 | 't', 3), 3);
        due(x.feed(0x71203941, 4), 7);
        due(x.text(), -1);
        due(x.feed(0x77657420, 4), 4);
        due(x.feed(0x41414139, 1), 5);
        due(x.text(), 1);
        due(x.set(1, 0), 9);
        due(x.feed(0, 0), BEYOND);
        due(x.feed(0, 5), BEYOND);
        due(x.feed(0, -1), BEYOND);
        for (int i = 1; i < 30; i++) {
            x.feed(0, 4);
        }
        due(x.feed(0, 3), 119);
        due(x.feed(0, 2), FULL);
        due(x.feed(0, 5), BEYOND);
        due(x.count(5), 119);
        due(x.feed(0, 1), 120);
        due(x.feed(0, 1), FULL);

        promise(33);
        due(x.wipe(), 120);
        due(x.wipe(), 0);
        due(x.count(5), 0);

        promise(34);
        x = new LineCalls();
        due(text(x, "jumper in 3 tall 71;prop tall 0;lock in 0; tower ;giant;rookie in6;flanker tall 99"), 7);
        due(x.count(5), 0);
        due(x.count(1), 7);
        for (int i = 0; i < 7; i++) {
            due(x.of(i, 0), i);
            due(x.of(i, 1), i == 0 ? 71 : i == 1 ? 0 : i == 6 ? 99 : 50);
            due(x.of(i, 7), i == 0 ? 3 : i == 2 ? 0 : i == 5 ? 6 : -1);
        }
        due(text(x, "theirs 4 99;call 5 999;code 4;wind 9;wet 8"), 5);
        due(x.place(4, 1), 99);
        due(x.place(4, 2), 0);
        due(x.listed(5), 999);
        due(x.set(2, 0), 4);
        due(x.set(0, 0), 9);
        due(x.set(1, 0), 8);
        due(text(x, "wind 1;wind 000002 ; wind 3"), 3);
        due(x.set(0, 0), 3);
        due(text(x, "jumper;lock"), -1 - 7);
        due(x.count(1), 7);
        due(text(x, "jumper"), 1);
        due(text(x, "wet 5;jumper tall 3"), -1 - 6);
        due(x.set(1, 0), 0);
        due(x.status(-1), 0);
    }

    private static void moreTexts() {
        LineCalls x = new LineCalls();
        x.jumper(JUMPER, 50);
        x.stand(2, 0);
        due(text(x, ""), -1);
        due(text(x, "   "), -1 - 3);
        due(text(x, ";"), -1);
        due(text(x, "wet 1;"), -1 - 6);
        due(text(x, "wet 1;  "), -1 - 8);
        due(text(x, "wet 1 ;;"), -1 - 7);
        due(text(x, "wet 1 2"), -1 - 6);
        due(text(x, "wet 10"), -1 - 4);
        due(text(x, "wet"), -1 - 3);
        due(text(x, "wetter 1"), -1);
        due(text(x, "wet wind"), -1 - 4);
        due(text(x, "wetz 1"), -1);
        due(text(x, "wet{1"), -1 - 3);
        due(text(x, "wet`1"), -1 - 3);
        due(text(x, "wet 1:"), -1 - 5);
        due(text(x, "wet 1/"), -1 - 5);
        due(text(x, "Wet 1"), -1);
        due(text(x, "wet 1\t"), -1 - 5);
        due(text(x, "wet -1"), -1 - 4);
        due(text(x, "lockin 1"), -1);
        due(text(x, "lock in"), -1 - 7);
        due(text(x, "lock in 7"), -1 - 8);
        due(text(x, "lock in 2"), -1 - 8);
        due(text(x, "lock in 1;prop in 1"), -1 - 18);
        due(text(x, "lock in 1 in 3"), -1 - 10);
        due(text(x, "lock tall 5 in 3"), -1 - 12);
        due(text(x, "lock tall 100"), -1 - 10);
        due(text(x, "lock tall 5 tall 5"), -1 - 12);
        due(text(x, "lock tall tall"), -1 - 10);
        due(text(x, "lock 5"), -1 - 5);
        due(text(x, "in 5"), -1);
        due(text(x, "tall 5"), -1);
        due(text(x, "5"), -1);
        due(text(x, "theirs 7 0"), -1 - 7);
        due(text(x, "theirs 6 100"), -1 - 9);
        due(text(x, "theirs 6"), -1 - 8);
        due(text(x, "theirs 6;"), -1 - 8);
        due(text(x, "call 6 0"), -1 - 5);
        due(text(x, "call 5 1000"), -1 - 7);
        due(text(x, "call 5 9999999999999999999999"), -1 - 7);
        due(text(x, "code 5"), -1 - 5);
        due(text(x, "wind 10"), -1 - 5);
        feed(x, "wet 1");
        x.feed(0xE9, 1);
        due(x.text(), -1 - 5);
        due(x.count(1), 1);
        due(x.count(5), 0);
        due(x.place(1, 0), -1);
        due(x.status(-1), 0);
        due(text(x, "lock in 1;theirs 1 3;theirs 2 4"), 3);
        due(x.place(1, 0), 1);
        due(x.place(1, 1), 3);
        due(x.place(2, 1), 4);
    }

    private static void spots() {
        promise(35);
        LineCalls x = new LineCalls();
        for (int kind = 0; kind < 7; kind++) {
            x.jumper(kind, 50);
        }
        due(x.hold(0, 0), 1);
        due(x.hold(9, 0), 1);
        due(x.count(7), 2);
        due(x.hold(9, -1), 1);
        due(x.hold(9, -1), 1);
        due(x.count(7), 1);
        due(x.hold(10, 0), BEYOND);
        due(x.hold(-1, 0), BEYOND);
        due(x.hold(0, 7), BEYOND);
        due(x.hold(0, -2), BEYOND);

        promise(36);
        int[] above = {1, 3, 5, 13, 29, 33, 67};
        for (int kind = 0; kind < 7; kind++) {
            x.hold(3, kind);
            for (int asked = 0; asked < 7; asked++) {
                due(x.as(3, asked), (above[kind] >> asked & 1) == 1 ? kind : KIND);
            }
        }
        x.change(6, 0, TOWER);
        due(x.as(3, LOCK), 6);
        due(x.as(9, 0), MISSING);
        due(x.as(9, 7), BEYOND);
        due(x.as(3, -1), BEYOND);
        due(x.as(10, 0), BEYOND);
        due(x.as(-1, 0), BEYOND);
    }

    private static void sheets() {
        promise(37);
        LineCalls x = new LineCalls();
        due(x.sheet(0, 8, 40), 40);
        due(x.sheet(3, 32, 0), 0);
        due(x.judge(3), 0);
        due(x.sheet(3, 0, 17), 0);
        due(x.judge(3), MISSING);
        due(x.sheet(0, 0, -1), SIZE);
        due(x.sheet(0, 8, -1), SIZE);
        due(x.sheet(0, 8, LEAST), SIZE);
        due(x.sheet(0, 8, 41), BEYOND);
        due(x.sheet(0, 16, MOST), BEYOND);
        due(x.sheet(0, 0, 41), BEYOND);
        due(x.sheet(0, 24, -1), BEYOND);
        due(x.sheet(4, 8, -1), BEYOND);
        due(x.sheet(-1, 8, 1), BEYOND);
        due(x.write(0, 0, 5), 1);
        due(x.write(0, 5, 5), 1);
        due(x.sheet(0, 8, 2), 2);
        due(x.sheet(0, 8, 40), 40);
        due(x.load(0), 6);
        due(x.listed(0), 0);
        due(x.listed(5), 0);

        promise(38);
        x = new LineCalls();
        x.jumper(JUMPER, 50);
        x.sheet(0, 8, 1);
        due(x.write(0, 0, 256 + 127), 1);
        x.change(0, 3, 127);
        due(x.judge(0), 0);
        due(x.write(0, 0, 128), 1);
        x.change(0, 3, 128);
        due(x.judge(0), 1);
        x.sheet(0, 16, 1);
        due(x.write(0, 0, 65536 + 9000), 1);
        x.change(0, 3, 9000);
        due(x.judge(0), 0);
        x.sheet(0, 32, 1);
        due(x.write(0, 0, 65536 + 9000), 1);
        due(x.judge(0), 1);
        due(x.write(0, 1, 0), BEYOND);
        due(x.write(0, -1, 0), BEYOND);
        due(x.write(1, 0, 0), MISSING);
        due(x.write(1, 99, 0), MISSING);
        due(x.write(4, 0, 0), BEYOND);
        due(x.write(-1, 0, 0), BEYOND);

        promise(39);
        x = new LineCalls();
        numbers(x, 0, 16, 10, 11, 12, 13, 14, 15);
        numbers(x, 1, 16, 20, 21, 22);
        due(x.copy(0, 0, 0, 1, 5), 5);
        x.load(0);
        due(x.listed(0), 10);
        due(x.listed(1), 10);
        due(x.listed(5), 14);
        due(x.copy(0, 1, 0, 0, 5), 5);
        x.load(0);
        due(x.listed(0), 10);
        due(x.listed(4), 14);
        due(x.listed(5), 14);
        due(x.copy(1, 1, 0, 3, 2), 2);
        x.load(0);
        due(x.listed(2), 12);
        due(x.listed(3), 21);
        due(x.listed(4), 22);
        due(x.copy(1, 3, 0, 6, 0), 0);
        due(x.copy(1, 2, 0, 0, 2), BEYOND);
        due(x.copy(0, 0, 1, 2, 2), BEYOND);
        due(x.copy(1, 4, 0, 0, 0), BEYOND);
        due(x.copy(1, -1, 0, 0, 1), BEYOND);
        due(x.copy(1, 0, 0, -1, 1), BEYOND);
        due(x.copy(1, 0, 0, 0, -1), BEYOND);
        due(x.copy(1, MOST, 0, 0, MOST), BEYOND);
        due(x.copy(1, 1, 0, 1, MOST), BEYOND);
        due(x.copy(1, LEAST, 0, LEAST, LEAST), BEYOND);
        x.sheet(2, 8, 3);
        due(x.copy(1, 0, 2, 0, 1), KIND);
        due(x.copy(1, 0, 2, 0, -1), KIND);
        due(x.copy(1, 0, 3, 0, -1), MISSING);
        due(x.copy(3, 0, 1, 0, 1), MISSING);
        due(x.copy(3, 0, 4, 0, 1), BEYOND);
        due(x.copy(-1, 0, 3, 0, 1), BEYOND);

        promise(40);
        x = new LineCalls();
        numbers(x, 0, 16, 999, 0, 1000, 5);
        due(x.load(0), 2);
        due(x.listed(0), 999);
        due(x.listed(1), 0);
        due(x.listed(2), 22);
        numbers(x, 0, 16, 1, 2, 3, 4, 5, 6, 7);
        due(x.load(0), 6);
        due(x.listed(5), 6);
        numbers(x, 0, 8, -1, 2);
        due(x.load(0), 0);
        due(x.listed(0), 1);
        x.sheet(0, 8, 0);
        due(x.load(0), 0);
        due(x.load(1), MISSING);
        due(x.load(4), BEYOND);
        due(x.load(-1), BEYOND);

        promise(41);
        x = new LineCalls();
        x.jumper(JUMPER, 50);
        x.jumper(JUMPER, 50);
        x.change(1, 3, 12);
        numbers(x, 0, 8, 0, 12);
        due(x.judge(0), 0);
        numbers(x, 0, 8, 0, 13);
        due(x.judge(0), 2);
        numbers(x, 0, 8, 1, 13);
        due(x.judge(0), 1);
        numbers(x, 0, 8, 0);
        due(x.judge(0), 0);
        numbers(x, 0, 8, 0, 12, 0);
        due(x.judge(0), 3);
        x.sheet(0, 8, 0);
        due(x.judge(0), 0);
        due(x.judge(1), MISSING);
        due(x.judge(4), BEYOND);
        due(x.judge(-1), BEYOND);
    }

    private static void images() {
        promise(42);
        LineCalls x = lone(LOCK, 99, 3);
        x.hold(2, 0);
        x.seed(77);
        x.go(2);
        x.set(0, 1);
        x.set(1, 2);
        x.set(2, 1);
        due(x.image(), 1);

        promise(43);
        numbers(x, 0, 8, 3);
        x.feed(0, 1);
        x.jumper(GIANT, 3);
        x.change(1, 2, 50);
        x.change(1, 3, 51);
        x.change(1, 4, 52);
        x.stand(3, 1);
        x.hold(2, 1);
        x.hold(3, 1);
        x.theirs(1, 1, 5);
        x.theirs(1, 2, 6);
        x.change(0, 0, FLANKER);
        x.change(0, 1, 5);
        x.change(0, 2, 6);
        x.change(0, 3, 7);
        x.change(0, 4, 9);
        x.mix(9);
        x.set(1, 8);
        x.set(2, 4);
        x.go(0);
        due(x.undo(), 2);
        due(x.count(0), 2);
        due(x.count(1), 1);
        due(x.count(2), 10);
        due(x.count(3), 2);
        due(x.count(4), 0);
        due(x.count(5), 1);
        due(x.count(6), 77);
        due(x.count(7), 1);
        due(x.as(2, LOCK), 0);
        due(x.place(3, 0), 0);
        due(x.place(1, 1), 40);
        due(x.place(1, 2), 0);
        due(x.place(3, 2), 12);
        due(x.of(0, 0), LOCK);
        due(x.of(0, 1), 99);
        due(x.of(0, 2), 8);
        due(x.listed(2), 3);
        due(x.set(0, 0), 1);
        due(x.set(1, 0), 2);
        due(x.set(2, 0), 1);
        due(x.load(0), 1);
        due(x.status(-1), 1);
        due(x.jumper(JUMPER, 4), 1);
        due(x.of(1, 2), 0);
        due(x.of(1, 3), 0);
        due(x.of(1, 4), 0);
        due(x.undo(), 2);
        due(x.count(1), 1);
        x.go(5);
        x.image();
        x.go(5);
        due(x.undo(), 7);
        due(x.undo(), 7);

        promise(44);
        due(x.tear(), 1);
        due(x.tear(), 0);
        due(x.undo(), NONE);
        due(x.count(0), 7);
        x.image();
        due(x.tear(), 1);

        promise(45);
        x = lone(LOCK, 99, 3);
        x.jumper(JUMPER, 50);
        x.change(1, 3, 5);
        x.change(1, 4, 6);
        x.go(2);
        x.feed(0, 3);
        x.hold(0, 1);
        x.hold(5, 1);
        x.hold(9, 0);
        int[] counted = {2, 2, 10, 7, 6, 3, 1, 3};
        for (int what = 0; what < 8; what++) {
            due(x.count(what), counted[what]);
        }
        due(x.count(8), BEYOND);
        due(x.count(-1), BEYOND);

        promise(46);
        x = new LineCalls();
        due(x.status(-1), 0);
        due(x.status(7), BEYOND);
        due(x.status(-2), BEYOND);
        due(x.status(0), 2);
        x.image();
        for (int i = 0; i < 9; i++) {
            x.jumper(JUMPER, 50);
        }
        due(x.status(1), 1);
        x.hold(0, 0);
        x.as(0, LOCK);
        x.undo();
        due(x.status(2), 1);
        due(x.known(), 0);
        x.tear();
        x.undo();
        x.undo();
        due(x.status(3), 2);
        due(x.status(4), 0);
        x.load(0);
        due(x.status(5), 1);
        x.sheet(0, 8, -1);
        due(x.status(6), 1);
        x.odds(9, 9, 9);
        due(x.status(0), 3);
        due(x.status(-1), 9);
        x.text();
        due(x.status(-1), 9);
    }
}
