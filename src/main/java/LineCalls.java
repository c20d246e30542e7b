/**
 * A line-out: seven PLACES with JUMPERS of kinds, THEIRS opposite who learn, a LIST of CALLS read by a CODE.
 * The document (../shared/DOC.md) tells what every call answers; the words in capitals are its terms.
 */
public final class LineCalls {
    private static final int LOW = -1000001;
    private static final int BEYOND = 0;
    private static final int FULL = 1;
    private static final int KIND = 2;
    private static final int NONE = 3;
    private static final int STATE = 4;
    private static final int MISSING = 5;
    private static final int SIZE = 6;
    private static final int FINDINGS = 7;
    private static final int NO_FINDING = -1;

    private static final int PLACES = 7;
    private static final int LISTED = 6;
    private static final int CODES = 5;
    private static final int KINDS = 7;
    private static final int SPOTS = 10;
    private static final int SHEETS = 4;
    private static final int MOST_JUMPERS = 8;
    private static final int MOST_CALL = 999;
    private static final int MOST_TALL = 99;
    private static final int MOST_TIRED = 99;
    private static final int MOST_HIGH = 99;
    private static final int MOST_READ = 99;
    private static final int MOST_WEATHER = 9;
    private static final int MOST_WON = 9999;
    private static final int MOST_METRES = 99999;
    private static final int MOST_THROWS = 99999;
    private static final int MOST_AHEAD = 100;
    private static final int MOST_PLANNED = 40;
    private static final int MOST_ON_SHEET = 40;
    private static final int MOST_ON_TAPE = 120;
    private static final int NOBODY = -1;
    private static final int ANY = -1;

    private static final int JUMPER = 0;
    private static final int PROP = 1;
    private static final int LOCK = 2;
    private static final int TOWER = 3;
    private static final int GIANT = 4;
    private static final int ROOKIE = 5;
    private static final int FLANKER = 6;
    /** For each KIND the one that it is under. */
    private static final int[] UNDER = {-1, JUMPER, JUMPER, LOCK, TOWER, JUMPER, PROP};

    private final Line line = new Line();
    /** What will be is played out here, so that the line itself stays as it is. */
    private final Line trial = new Line();
    private final Line kept = new Line();
    private boolean hasImage = false;
    private final TextReader reader = new TextReader();
    private final Tape tape = reader.tape;
    private final Sheet[] sheets = new Sheet[SHEETS];
    private final int[] found = new int[FINDINGS];

    public LineCalls() {
        for (int s = 0; s < SHEETS; s++) {
            sheets[s] = new Sheet();
        }
    }

    // ---- line, calls, jumpers

    public int stand(int place, int jumper) {
        if (!isPlace(place) || !isJumperOrNobody(jumper)) {
            return finding(BEYOND);
        }
        int before = line.standing[place];
        line.leave(jumper);
        line.standing[place] = jumper;
        return before;
    }

    public int place(int place, int what) {
        if (!isPlace(place)) {
            return finding(BEYOND);
        }
        switch (what) {
            case 0: return line.standing[place];
            case 1: return line.theirHigh[place];
            case 2: return line.theirRead[place];
            case 3: return line.forceIn(place);
            default: return finding(BEYOND);
        }
    }

    public int theirs(int place, int what, int v) {
        if (!isPlace(place) || !within(what, 1, 2) || !within(v, 0, what == 1 ? MOST_HIGH : MOST_READ)) {
            return finding(BEYOND);
        }
        int[] row = what == 1 ? line.theirHigh : line.theirRead;
        int before = row[place];
        row[place] = v;
        return before;
    }

    public int set(int what, int v) {
        if (!within(what, 0, 2) || !within(v, 0, mostOfSetting(what))) {
            return finding(BEYOND);
        }
        return line.putSetting(what, v);
    }

    public int call(int i, int v) {
        if (!within(i, 0, LISTED - 1) || !within(v, 0, MOST_CALL)) {
            return finding(BEYOND);
        }
        int before = line.list[i];
        line.list[i] = v;
        return before;
    }

    public int listed(int i) {
        return within(i, 0, LISTED - 1) ? line.list[i] : finding(BEYOND);
    }

    public int says(int call, int code) {
        if (!within(call, 0, MOST_CALL) || !within(code, 0, CODES - 1)) {
            return finding(BEYOND);
        }
        return placeSaid(call, code);
    }

    public int jumper(int kind, int tall) {
        if (!within(kind, 0, KINDS - 1) || !within(tall, 0, MOST_TALL)) {
            return finding(BEYOND);
        }
        if (line.jumpers >= MOST_JUMPERS) {
            return finding(FULL);
        }
        return line.join(kind, tall);
    }

    public int of(int jumper, int what) {
        if (!isJumper(jumper) || !within(what, 0, 7)) {
            return finding(BEYOND);
        }
        switch (what) {
            case 5: return line.highOf(jumper);
            case 6: return line.tiringOf(jumper);
            case 7: return line.whereIs(jumper);
            default: return line.rowOf(what)[jumper];
        }
    }

    public int change(int jumper, int what, int v) {
        if (!isJumper(jumper) || !within(what, 0, 4) || !within(v, 0, mostOf(what))) {
            return finding(BEYOND);
        }
        int[] row = line.rowOf(what);
        int before = row[jumper];
        row[jumper] = v;
        return before;
    }

    public int gains(int jumper, int place) {
        if (!isJumper(jumper) || !isPlace(place)) {
            return finding(BEYOND);
        }
        return line.gainOf(jumper, place);
    }

    // ---- throws

    public int go(int n) {
        if (!within(n, 1, 60)) {
            return finding(BEYOND);
        }
        if (line.thrown + n > MOST_THROWS) {
            return finding(STATE);
        }
        return line.throwMany(n);
    }

    public int now(int what) {
        switch (what) {
            case 0: return line.thrown;
            case 1: return line.metres;
            case 2: return line.sum(line.won);
            case 3: return line.sum(line.lost);
            case 4: return line.nextPlace();
            case 5: return line.winnable();
            case 6: return line.placesListed();
            default: return finding(BEYOND);
        }
    }

    // ---- what will be (nothing changes)

    public int ahead(int jumper, int what, int n) {
        if (!isJumper(jumper) || !within(what, 2, 5) || !within(n, 0, MOST_AHEAD)) {
            return finding(BEYOND);
        }
        trial.become(line);
        trial.throwMany(n);
        return what == 5 ? trial.highOf(jumper) : trial.rowOf(what)[jumper];
    }

    public int metres(int n) {
        if (!within(n, 0, MOST_AHEAD)) {
            return finding(BEYOND);
        }
        trial.become(line);
        return trial.throwMany(n);
    }

    public int when(int jumper, int v) {
        if (!isJumper(jumper) || !within(v, 0, MOST_WON)) {
            return finding(BEYOND);
        }
        trial.become(line);
        for (int n = 0; n <= MOST_AHEAD; n++) {
            if (trial.won[jumper] >= v) {
                return n;
            }
            trial.throwIn();
        }
        return finding(NONE);
    }

    public int known() {
        trial.become(line);
        for (int n = 0; n <= MOST_AHEAD; n++) {
            if (trial.winnable() == 0) {
                return n;
            }
            trial.throwIn();
        }
        return finding(NONE);
    }

    // ---- what to call, who where

    public int codeFor(int n) {
        if (!within(n, 0, MOST_PLANNED)) {
            return finding(BEYOND);
        }
        int best = 0;
        int most = -1;
        for (int code = 0; code < CODES; code++) {
            trial.become(line);
            trial.code = code;
            int behind = trial.throwMany(n);
            if (behind > most) {
                most = behind;
                best = code;
            }
        }
        return best;
    }

    public int callFor(int n) {
        if (!within(n, 0, 10)) {
            return finding(BEYOND);
        }
        int best = 0;
        int most = -1;
        int tried = 0;
        for (int v = 0; v <= MOST_CALL; v++) {
            int bit = 1 << placeSaid(v, line.code);
            // A CALL counts by nothing but the PLACE that it says: the least one for each PLACE is enough.
            if ((tried & bit) == 0) {
                tried |= bit;
                trial.become(line);
                trial.list[trial.nextIndex()] = v;
                int behind = trial.throwMany(n);
                if (behind > most) {
                    most = behind;
                    best = v;
                }
            }
        }
        return best;
    }

    public int standFor(int jumper, int n) {
        if (!isJumper(jumper) || !within(n, 0, MOST_PLANNED)) {
            return finding(BEYOND);
        }
        int best = 0;
        int most = -1;
        for (int p = 0; p < PLACES; p++) {
            trial.become(line);
            trial.swapInto(jumper, p);
            int behind = trial.throwMany(n);
            if (behind > most) {
                most = behind;
                best = p;
            }
        }
        return best;
    }

    public int kindFor(int jumper, int n) {
        if (!isJumper(jumper) || !within(n, 0, MOST_PLANNED)) {
            return finding(BEYOND);
        }
        int best = 0;
        int most = -1;
        for (int kind = 0; kind < KINDS; kind++) {
            trial.become(line);
            trial.kind[jumper] = kind;
            trial.throwMany(n);
            if (trial.won[jumper] > most) {
                most = trial.won[jumper];
                best = kind;
            }
        }
        return best;
    }

    public int tallFor(int jumper, int v, int n) {
        if (!isJumper(jumper) || !within(v, 0, MOST_WON) || !within(n, 0, MOST_PLANNED)) {
            return finding(BEYOND);
        }
        for (int tall = 0; tall <= MOST_TALL; tall++) {
            trial.become(line);
            trial.tall[jumper] = tall;
            trial.throwMany(n);
            if (trial.won[jumper] >= v) {
                return tall;
            }
        }
        return finding(NONE);
    }

    public int cover() {
        int calls = 0;
        int covered = 0;
        // Each CALL says one PLACE, so the first that says it, for each PLACE, are the fewest and the least.
        for (int i = 0; i < LISTED; i++) {
            int bit = 1 << placeSaid(line.list[i], line.code);
            if ((covered & bit) == 0) {
                covered |= bit;
                calls |= 1 << i;
            }
        }
        return calls;
    }

    // ---- told ends

    public int codes(int s) {
        int lack = lackOf(s);
        if (lack != NO_FINDING) {
            return finding(lack);
        }
        int fitting = 0;
        for (int code = 0; code < CODES; code++) {
            trial.become(line);
            trial.code = code;
            if (goesAsTold(sheets[s])) {
                fitting |= 1 << code;
            }
        }
        return fitting;
    }

    public int fits(int s, int jumper) {
        int lack = lackOf(s);
        if (lack != NO_FINDING) {
            return finding(lack);
        }
        if (!isJumper(jumper)) {
            return finding(BEYOND);
        }
        int fitting = 0;
        for (int tall = 0; tall <= MOST_TALL; tall++) {
            if (fitsSoTall(sheets[s], jumper, tall)) {
                fitting++;
            }
        }
        return fitting;
    }

    public int tall(int s, int jumper) {
        int lack = lackOf(s);
        if (lack != NO_FINDING) {
            return finding(lack);
        }
        if (!isJumper(jumper)) {
            return finding(BEYOND);
        }
        for (int tall = 0; tall <= MOST_TALL; tall++) {
            if (fitsSoTall(sheets[s], jumper, tall)) {
                return tall;
            }
        }
        return finding(NONE);
    }

    public int kinds(int s, int jumper) {
        int lack = lackOf(s);
        if (lack != NO_FINDING) {
            return finding(lack);
        }
        if (!isJumper(jumper)) {
            return finding(BEYOND);
        }
        int fitting = 0;
        for (int kind = 0; kind < KINDS; kind++) {
            trial.become(line);
            trial.kind[jumper] = kind;
            if (goesAsTold(sheets[s])) {
                fitting |= 1 << kind;
            }
        }
        return fitting;
    }

    // ---- calls by draws

    public int mix(int n) {
        if (!within(n, 1, 20)) {
            return finding(BEYOND);
        }
        if (line.thrown + n > MOST_THROWS) {
            return finding(STATE);
        }
        for (int i = 0; i < n; i++) {
            line.list[line.nextIndex()] = line.draw() % 1000;
            line.wind = line.draw() % 10;
            line.throwIn();
        }
        return line.metres;
    }

    public long odds(int place, int n, int what) {
        if (!isPlace(place) || !within(n, 0, 6) || !within(what, 0, 1)) {
            return finding(BEYOND);
        }
        int saying = 0;
        for (int v = 0; v <= MOST_CALL; v++) {
            if (placeSaid(v, line.code) == place) {
                saying++;
            }
        }
        int all = MOST_CALL + 1;
        // Powers of a fraction in lowest terms are in lowest terms themselves.
        int part = what == 0 ? saying : all;
        int divisor = commonDivisor(saying, all);
        if (divisor > 1) {
            part /= divisor;
        }
        long power = 1;
        for (int i = 0; i < n; i++) {
            power *= part;
        }
        return power;
    }

    public int seed(int v) {
        int before = line.z;
        line.z = v;
        return before;
    }

    // ---- texts

    public int feed(int bytes, int n) {
        if (!within(n, 1, 4)) {
            return finding(BEYOND);
        }
        if (tape.size + n > MOST_ON_TAPE) {
            return finding(FULL);
        }
        for (int i = n - 1; i >= 0; i--) {
            tape.put((byte) (bytes >> (8 * i)));
        }
        return tape.size;
    }

    public int wipe() {
        int before = tape.size;
        tape.size = 0;
        return before;
    }

    public int text() {
        trial.become(line);
        int answer = reader.readInto(trial);
        if (answer >= 0) {
            line.become(trial);
        }
        tape.size = 0;
        return answer;
    }

    // ---- spots, sheets

    public int hold(int spot, int jumper) {
        if (!within(spot, 0, SPOTS - 1) || !isJumperOrNobody(jumper)) {
            return finding(BEYOND);
        }
        line.spots[spot] = jumper;
        return 1;
    }

    public int as(int spot, int kind) {
        if (!within(spot, 0, SPOTS - 1) || !within(kind, 0, KINDS - 1)) {
            return finding(BEYOND);
        }
        int jumper = line.spots[spot];
        if (jumper == NOBODY) {
            return finding(MISSING);
        }
        return isKindOf(line.kind[jumper], kind) ? jumper : finding(KIND);
    }

    public int sheet(int s, int bits, int n) {
        if (!isSheet(s) || (bits != 0 && bits != 8 && bits != 16 && bits != 32)) {
            return finding(BEYOND);
        }
        if (n < 0) {
            return finding(SIZE);
        }
        if (n > MOST_ON_SHEET) {
            return finding(BEYOND);
        }
        sheets[s].begin(bits, n);
        return sheets[s].size;
    }

    public int write(int s, int i, int v) {
        int lack = lackOf(s);
        if (lack != NO_FINDING) {
            return finding(lack);
        }
        if (!within(i, 0, sheets[s].size - 1)) {
            return finding(BEYOND);
        }
        sheets[s].put(i, v);
        return 1;
    }

    public int copy(int s, int from, int t, int to, int n) {
        if (!isSheet(s) || !isSheet(t)) {
            return finding(BEYOND);
        }
        Sheet source = sheets[s];
        Sheet target = sheets[t];
        if (source.isMissing() || target.isMissing()) {
            return finding(MISSING);
        }
        if (source.bits != target.bits) {
            return finding(KIND);
        }
        if (!source.has(from, n) || !target.has(to, n)) {
            return finding(BEYOND);
        }
        System.arraycopy(source.numbers, from, target.numbers, to, n);
        return n;
    }

    public int load(int s) {
        int lack = lackOf(s);
        if (lack != NO_FINDING) {
            return finding(lack);
        }
        int most = Math.min(LISTED, sheets[s].size);
        for (int i = 0; i < most; i++) {
            int v = sheets[s].numbers[i];
            if (!within(v, 0, MOST_CALL)) {
                return i;
            }
            line.list[i] = v;
        }
        return most;
    }

    public int judge(int s) {
        int lack = lackOf(s);
        if (lack != NO_FINDING) {
            return finding(lack);
        }
        for (int i = 0; i < sheets[s].size; i++) {
            if (!isJumper(i) || line.won[i] != sheets[s].numbers[i]) {
                return 1 + i;
            }
        }
        return 0;
    }

    // ---- images

    public int image() {
        kept.become(line);
        hasImage = true;
        return 1;
    }

    public int undo() {
        if (!hasImage) {
            return finding(NONE);
        }
        line.become(kept);
        return line.thrown;
    }

    public int tear() {
        int before = hasImage ? 1 : 0;
        hasImage = false;
        return before;
    }

    public int count(int what) {
        switch (what) {
            case 0: return line.thrown;
            case 1: return line.jumpers;
            case 2: return line.metres;
            case 3: return line.sum(line.won);
            case 4: return line.sum(line.lost);
            case 5: return tape.size;
            case 6: return line.z;
            case 7: return line.spotsHolding();
            default: return finding(BEYOND);
        }
    }

    public int status(int which) {
        if (!within(which, -1, FINDINGS - 1)) {
            return finding(BEYOND);
        }
        if (which >= 0) {
            return found[which];
        }
        int all = 0;
        for (int i = 0; i < FINDINGS; i++) {
            all += found[i];
        }
        return all;
    }

    // ---- what the calls share

    private int finding(int which) {
        found[which]++;
        return LOW - which;
    }

    private static boolean within(int v, int least, int most) {
        return v >= least && v <= most;
    }

    private static boolean isPlace(int place) {
        return within(place, 0, PLACES - 1);
    }

    private boolean isJumper(int jumper) {
        return within(jumper, 0, line.jumpers - 1);
    }

    private boolean isJumperOrNobody(int jumper) {
        return jumper == NOBODY || isJumper(jumper);
    }

    private static boolean isSheet(int s) {
        return within(s, 0, SHEETS - 1);
    }

    /** The finding of one who asks for the numbers of a sheet. */
    private int lackOf(int s) {
        if (!isSheet(s)) {
            return BEYOND;
        }
        return sheets[s].isMissing() ? MISSING : NO_FINDING;
    }

    private static boolean isKindOf(int kind, int asked) {
        int k = kind;
        for (int level = 0; level < KINDS && k >= 0; level++) {
            if (k == asked) {
                return true;
            }
            k = UNDER[k];
        }
        return false;
    }

    private static int mostOf(int what) {
        switch (what) {
            case 0: return KINDS - 1;
            case 1: return MOST_TALL;
            case 2: return MOST_TIRED;
            default: return MOST_WON;
        }
    }

    private static int mostOfSetting(int what) {
        return what == 2 ? CODES - 1 : MOST_WEATHER;
    }

    /** The PLACE that a CALL says by a CODE. */
    private static int placeSaid(int call, int code) {
        int last = call % 10;
        int middle = call / 10 % 10;
        int first = call / 100;
        switch (code) {
            case 0: return last % PLACES;
            case 1: return (last + middle + first) % PLACES;
            case 2: return first % PLACES;
            case 3: return last % 2 == 1 ? 0 : middle % 2 == 1 ? 3 : 6;
            default: return Integer.bitCount(call) % PLACES;
        }
    }

    /** The greatest number by which both can be divided. */
    private static int commonDivisor(int a, int b) {
        int greater = b;
        int less = a;
        for (int step = 0; step < 64 && less != 0; step++) {
            int rest = greater % less;
            greater = less;
            less = rest;
        }
        return greater;
    }

    private boolean fitsSoTall(Sheet told, int jumper, int tall) {
        trial.become(line);
        trial.tall[jumper] = tall;
        return goesAsTold(told);
    }

    /** Whether METRES of the trial, now and behind each THROW, are as a sheet tells. */
    private boolean goesAsTold(Sheet told) {
        for (int i = 0; i < told.size; i++) {
            if (i > 0) {
                trial.throwIn();
            }
            if (told.numbers[i] != ANY && told.numbers[i] != trial.metres) {
                return false;
            }
        }
        return true;
    }

    /** All that an image keeps: PLACES, THEIRS, THE LIST, JUMPERS, SPOTS, and what was thrown so far. */
    private static final class Line {
        final int[] standing = new int[PLACES];
        final int[] theirHigh = new int[PLACES];
        final int[] theirRead = new int[PLACES];
        final int[] list = new int[LISTED];
        final int[] kind = new int[MOST_JUMPERS];
        final int[] tall = new int[MOST_JUMPERS];
        final int[] tired = new int[MOST_JUMPERS];
        final int[] won = new int[MOST_JUMPERS];
        final int[] lost = new int[MOST_JUMPERS];
        final int[] spots = new int[SPOTS];
        int jumpers = 0;
        int wind = 0;
        int wet = 0;
        int code = 0;
        int thrown = 0;
        int metres = 0;
        int z = 1;

        Line() {
            for (int p = 0; p < PLACES; p++) {
                standing[p] = NOBODY;
                theirHigh[p] = 40;
            }
            for (int i = 0; i < LISTED; i++) {
                list[i] = 11 * i;
            }
            for (int i = 0; i < SPOTS; i++) {
                spots[i] = NOBODY;
            }
        }

        void become(Line other) {
            System.arraycopy(other.standing, 0, standing, 0, PLACES);
            System.arraycopy(other.theirHigh, 0, theirHigh, 0, PLACES);
            System.arraycopy(other.theirRead, 0, theirRead, 0, PLACES);
            System.arraycopy(other.list, 0, list, 0, LISTED);
            System.arraycopy(other.kind, 0, kind, 0, MOST_JUMPERS);
            System.arraycopy(other.tall, 0, tall, 0, MOST_JUMPERS);
            System.arraycopy(other.tired, 0, tired, 0, MOST_JUMPERS);
            System.arraycopy(other.won, 0, won, 0, MOST_JUMPERS);
            System.arraycopy(other.lost, 0, lost, 0, MOST_JUMPERS);
            System.arraycopy(other.spots, 0, spots, 0, SPOTS);
            jumpers = other.jumpers;
            wind = other.wind;
            wet = other.wet;
            code = other.code;
            thrown = other.thrown;
            metres = other.metres;
            z = other.z;
        }

        /**
         * A new JUMPER in no PLACE; the caller has seen that there is room for it. Its TIRED, WON and LOST are 0
         * already: nothing is written behind the JUMPERS, and an image is taken and undone with its whole rows.
         */
        int join(int itsKind, int itsTall) {
            int jumper = jumpers;
            kind[jumper] = itsKind;
            tall[jumper] = itsTall;
            jumpers++;
            return jumper;
        }

        /** WIND (0), WET (1) or CODE (2) becomes v: what it was. */
        int putSetting(int what, int v) {
            int before;
            if (what == 0) {
                before = wind;
                wind = v;
            } else if (what == 1) {
                before = wet;
                wet = v;
            } else {
                before = code;
                code = v;
            }
            return before;
        }

        /** KIND, TALL, TIRED, WON, LOST of all JUMPERS, by the number that they have in the document. */
        int[] rowOf(int what) {
            switch (what) {
                case 0: return kind;
                case 1: return tall;
                case 2: return tired;
                case 3: return won;
                default: return lost;
            }
        }

        int whereIs(int jumper) {
            for (int p = 0; p < PLACES; p++) {
                if (standing[p] == jumper) {
                    return p;
                }
            }
            return NOBODY;
        }

        void leave(int jumper) {
            for (int p = 0; p < PLACES; p++) {
                if (standing[p] == jumper) {
                    standing[p] = NOBODY;
                }
            }
        }

        void swapInto(int jumper, int place) {
            int from = whereIs(jumper);
            int other = standing[place];
            if (from >= 0) {
                standing[from] = other;
            }
            standing[place] = jumper;
        }

        int highOf(int jumper) {
            int plain = Math.max(0, tall[jumper] - tired[jumper] / 4);
            switch (kind[jumper]) {
                case PROP: return plain / 2;
                case FLANKER: return plain / 2 + 30 - wet;
                case LOCK: return plain + 10;
                case TOWER: return plain + 15 - wind;
                case GIANT: return plain + 15 - wind + (tired[jumper] < 20 ? 10 : 0);
                case ROOKIE: return thrown % 2 == 1 ? 0 : plain;
                default: return plain;
            }
        }

        int gainOf(int jumper, int place) {
            switch (kind[jumper]) {
                case PROP: return 1;
                case FLANKER: return 1 + 2 * place;
                case LOCK:
                case TOWER: return place + 2;
                case GIANT: return Math.max(0, place + 2 - wind);
                default: return place;
            }
        }

        int tiringOf(int jumper) {
            switch (kind[jumper]) {
                case PROP: return 8;
                case FLANKER: return 2;
                case LOCK:
                case TOWER: return 4;
                case GIANT: return 8;
                case ROOKIE: return 5 + wet;
                default: return 5;
            }
        }

        int forceIn(int place) {
            return theirHigh[place] + theirRead[place] / 2;
        }

        boolean wouldWin(int place) {
            int jumper = standing[place];
            return jumper != NOBODY && highOf(jumper) > forceIn(place);
        }

        int winnable() {
            int places = 0;
            for (int p = 0; p < PLACES; p++) {
                if (wouldWin(p)) {
                    places |= 1 << p;
                }
            }
            return places;
        }

        int placesListed() {
            int places = 0;
            for (int i = 0; i < LISTED; i++) {
                places |= 1 << placeSaid(list[i], code);
            }
            return places;
        }

        int nextIndex() {
            return thrown % LISTED;
        }

        int nextPlace() {
            return placeSaid(list[nextIndex()], code);
        }

        int sum(int[] row) {
            int all = 0;
            for (int i = 0; i < jumpers; i++) {
                all += row[i];
            }
            return all;
        }

        int spotsHolding() {
            int holding = 0;
            for (int i = 0; i < SPOTS; i++) {
                if (spots[i] != NOBODY) {
                    holding++;
                }
            }
            return holding;
        }

        int draw() {
            z = z * 1103515245 + 12345;
            return z >>> 8;
        }

        /** n THROWS: METRES then. */
        int throwMany(int n) {
            for (int i = 0; i < n; i++) {
                throwIn();
            }
            return metres;
        }

        /** One THROW. */
        void throwIn() {
            int place = nextPlace();
            int jumper = standing[place];
            if (jumper == NOBODY) {
                metres = Math.max(0, metres - 5);
            } else {
                contest(jumper, place);
                tired[jumper] = Math.min(MOST_TIRED, tired[jumper] + tiringOf(jumper));
            }
            restAllBut(jumper);
            learn(place);
            thrown = Math.min(MOST_THROWS, thrown + 1);
        }

        private void contest(int jumper, int place) {
            if (wouldWin(place)) {
                metres = Math.min(MOST_METRES, metres + gainOf(jumper, place));
                won[jumper] = Math.min(MOST_WON, won[jumper] + 1);
            } else {
                lost[jumper] = Math.min(MOST_WON, lost[jumper] + 1);
                metres = Math.max(0, metres - 3);
            }
        }

        private void restAllBut(int jumper) {
            for (int i = 0; i < jumpers; i++) {
                if (i != jumper) {
                    tired[i] = Math.max(0, tired[i] - 2);
                }
            }
        }

        private void learn(int place) {
            for (int p = 0; p < PLACES; p++) {
                theirRead[p] = p == place ? Math.min(MOST_READ, theirRead[p] + 6) : Math.max(0, theirRead[p] - 1);
            }
        }
    }

    /** A row of numbers of 8, 16 or 32 bits; of 0 bits while it is MISSING. */
    private static final class Sheet {
        final int[] numbers = new int[MOST_ON_SHEET];
        int bits = 0;
        int size = 0;

        boolean isMissing() {
            return bits == 0;
        }

        void begin(int itsBits, int itsSize) {
            bits = itsBits;
            size = itsBits == 0 ? 0 : itsSize;
            for (int i = 0; i < MOST_ON_SHEET; i++) {
                numbers[i] = 0;
            }
        }

        void put(int i, int v) {
            numbers[i] = bits == 8 ? (byte) v : bits == 16 ? (short) v : v;
        }

        /** Whether there are n numbers from one on; written so that no sum can wrap around. */
        boolean has(int from, int n) {
            return from >= 0 && n >= 0 && n <= size - from;
        }
    }

    /** THE TAPE, and the TOKEN of it at which a reader stands. */
    private static final class Tape {
        static final int END = 0;
        static final int WORD = 1;
        static final int NUMBER = 2;
        static final int SIGN = 3;
        static final int NO_TOKEN = 4;

        static final int WORDS = 14;
        static final int NO_WORD = -1;

        final byte[] bytes = new byte[MOST_ON_TAPE];
        int size = 0;
        /** What the TOKEN is, where it begins, where it ends. */
        int token = END;
        int start = 0;
        int end = 0;
        /** The number of the WORD, or the NUMBER, which stays at 1000 if it is more. */
        int value = 0;

        void put(byte b) {
            if (size < MOST_ON_TAPE) {
                bytes[size] = b;
                size++;
            }
        }

        void rewind() {
            end = 0;
            step();
        }

        /** Goes on to the next TOKEN. */
        void step() {
            start = end;
            while (start < size && bytes[start] == ' ') {
                start++;
            }
            end = start;
            if (start >= size) {
                token = END;
            } else if (isLetter(start)) {
                token = WORD;
                takeWord();
            } else if (isDigit(start)) {
                token = NUMBER;
                takeNumber();
            } else {
                token = bytes[start] == ';' ? SIGN : NO_TOKEN;
                end = start + 1;
            }
        }

        boolean isWord(int word) {
            return token == WORD && value == word;
        }

        boolean isNumber(int most) {
            return token == NUMBER && value <= most;
        }

        private boolean isLetter(int i) {
            return i < size && bytes[i] >= 'a' && bytes[i] <= 'z';
        }

        private boolean isDigit(int i) {
            return i < size && bytes[i] >= '0' && bytes[i] <= '9';
        }

        private void takeNumber() {
            value = 0;
            while (end < size && isDigit(end)) {
                value = Math.min(MOST_CALL + 1, value * 10 + bytes[end] - '0');
                end++;
            }
        }

        private void takeWord() {
            while (end < size && isLetter(end)) {
                end++;
            }
            value = NO_WORD;
            for (int word = 0; word < WORDS; word++) {
                if (isSpelled(spelling(word))) {
                    value = word;
                }
            }
        }

        private boolean isSpelled(String word) {
            if (word.length() != end - start) {
                return false;
            }
            for (int i = 0; i < word.length(); i++) {
                if (word.charAt(i) != bytes[start + i]) {
                    return false;
                }
            }
            return true;
        }

        private static String spelling(int word) {
            switch (word) {
                case JUMPER: return "jumper";
                case PROP: return "prop";
                case LOCK: return "lock";
                case TOWER: return "tower";
                case GIANT: return "giant";
                case ROOKIE: return "rookie";
                case FLANKER: return "flanker";
                case TextReader.THEIRS: return "theirs";
                case TextReader.CALL: return "call";
                case TextReader.WIND: return "wind";
                case TextReader.WET: return "wet";
                case TextReader.CODE: return "code";
                case TextReader.IN: return "in";
                default: return "tall";
            }
        }
    }

    /** Reads a TEXT from THE TAPE. The WORDS of the KINDS bear their numbers, those of the settings follow set(). */
    private static final class TextReader {
        static final int THEIRS = 7;
        static final int CALL = 8;
        static final int WIND = 9;
        static final int WET = 10;
        static final int CODE = 11;
        static final int LAST_OF_ITEMS = CODE;
        static final int IN = 12;
        static final int TALL = 13;

        private static final int USUAL_TALL = 50;

        final Tape tape = new Tape();

        /**
         * How many ITEMS, or -1 less the FAULT. Each part below stops at the TOKEN that can't stand there,
         * so that the FAULT is where the TAPE's TOKEN begins (at the end: how many bytes there are).
         */
        int readInto(Line line) {
            tape.rewind();
            for (int items = 1; items <= MOST_ON_TAPE; items++) {
                if (!readItem(line)) {
                    return -1 - tape.start;
                }
                if (tape.token == Tape.END) {
                    return items;
                }
                if (tape.token != Tape.SIGN) {
                    return -1 - tape.start;
                }
                tape.step();
            }
            return -1 - tape.start;
        }

        private boolean readItem(Line line) {
            if (tape.token != Tape.WORD || !within(tape.value, JUMPER, LAST_OF_ITEMS)) {
                return false;
            }
            int word = tape.value;
            switch (word) {
                case THEIRS: return readPair(line.theirHigh, PLACES, MOST_HIGH);
                case CALL: return readPair(line.list, LISTED, MOST_CALL);
                case WIND:
                case WET:
                case CODE: return readSetting(line, word - WIND);
                default: return readJumper(line, word);
            }
        }

        /** Behind its WORD: which of a row, and what that becomes. */
        private boolean readPair(int[] row, int length, int most) {
            tape.step();
            if (!tape.isNumber(length - 1)) {
                return false;
            }
            int i = tape.value;
            tape.step();
            if (!tape.isNumber(most)) {
                return false;
            }
            row[i] = tape.value;
            tape.step();
            return true;
        }

        private boolean readSetting(Line line, int what) {
            tape.step();
            if (!tape.isNumber(mostOfSetting(what))) {
                return false;
            }
            line.putSetting(what, tape.value);
            tape.step();
            return true;
        }

        private boolean readJumper(Line line, int kind) {
            if (line.jumpers >= MOST_JUMPERS) {
                return false;
            }
            int jumper = line.join(kind, USUAL_TALL);
            tape.step();
            if (tape.isWord(IN)) {
                tape.step();
                if (!tape.isNumber(PLACES - 1) || line.standing[tape.value] != NOBODY) {
                    return false;
                }
                line.standing[tape.value] = jumper;
                tape.step();
            }
            if (tape.isWord(TALL)) {
                tape.step();
                if (!tape.isNumber(MOST_TALL)) {
                    return false;
                }
                line.tall[jumper] = tape.value;
                tape.step();
            }
            return true;
        }
    }
}
