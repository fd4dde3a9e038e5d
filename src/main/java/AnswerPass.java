/** The pass on which it is clear as far as each traveller's answer goes; what it must do is in ../shared/DOC.md. */
public final class AnswerPass {
    private static final int LOW = -1000000000;
    private static final int BEYOND = 1;
    private static final int NONE = 2;
    private static final int STATE = 3;
    private static final int FULL = 4;
    private static final int UNLIKE = 5;
    private static final int PARTED = 6;
    private static final int ERRORS = 6;

    private static final int MOST_PEOPLE = 6;
    private static final int LAST_CELL = 15;
    private static final int LAST_HOUR = 9999;
    private static final int SURES = 100;
    private static final int FAR_HOURS = 60;
    private static final int NEAR_HOURS = 20;
    private static final int DRAWN_HOURS = 30;

    private static final int MAN = 0;
    private static final int DRUMMER = 1;
    private static final int DEPENDS = 2;
    private static final int LIAR = 3;
    private static final int HONEYMOON = 4;
    private static final int PILGRIM = 5;
    private static final int OLD = 6;
    private static final int KINDS = 7;
    /** The KIND above each KIND. */
    private static final int[] ABOVE = {-1, MAN, MAN, MAN, DRUMMER, DEPENDS, MAN};

    private static final int USES = 2;
    private static final int TAPE_BYTES = 60;
    private static final int MOST_WAITING = 24;

    private final State now = new State();
    private final State kept = new State();
    private final Reader reader = new Reader(now.tape);
    private final Thought thought = new Thought(now.pass);
    private final Voices voices = new Voices();
    private final Sheets sheets = new Sheets();
    private final int[] errors = new int[ERRORS + 1];
    private int images = 0;

    public AnswerPass() {
    }

    // ---- travellers

    public int person(int km, int sure) {
        if (!isKindAndNumber(km) || !isSure(sure)) {
            return refuse(BEYOND);
        }
        Pass pass = now.pass;
        if (pass.people >= MOST_PEOPLE) {
            return refuse(FULL);
        }
        return pass.takesIn(km / 10, km % 10, sure);
    }

    public int personIs(int person, int what) {
        if (!isPerson(person)) {
            return refuse(BEYOND);
        }
        Pass pass = now.pass;
        switch (what) {
            case 0: return pass.kinds[person];
            case 1: return pass.numbers[person];
            case 2: return pass.sures[person];
            case 3: return pass.at[person];
            case 4: return pass.lost[person] ? 1 : 0;
            case 5: return pass.clearFor(person);
            case 6: return pass.paceOf(person, pass.clearFor(person));
            case 7: return pass.falls(person) ? 1 : 0;
            default: return refuse(BEYOND);
        }
    }

    public int become(int person, int km) {
        if (!isPerson(person) || !isKindAndNumber(km)) {
            return refuse(BEYOND);
        }
        Pass pass = now.pass;
        int was = pass.kinds[person];
        pass.kinds[person] = km / 10;
        pass.numbers[person] = km % 10;
        return was;
    }

    public int as(int person, int kind) {
        if (!isPerson(person) || !isWithin(kind, 0, KINDS - 1)) {
            return refuse(BEYOND);
        }
        if (!isKindOrUnder(now.pass.kinds[person], kind)) {
            return refuse(UNLIKE);
        }
        return now.pass.numbers[person];
    }

    public int answers(int person, int sure) {
        if (!isPerson(person) || !isSure(sure)) {
            return refuse(BEYOND);
        }
        int was = now.pass.sures[person];
        now.pass.sures[person] = sure;
        return was;
    }

    public int puts(int person, int cell) {
        if (!isPerson(person) || !isCell(cell)) {
            return refuse(BEYOND);
        }
        int was = now.pass.at[person];
        now.pass.stands(person, cell);
        return was;
    }

    public int drop(int cell, int is) {
        if (!isWithin(cell, 1, LAST_CELL - 1) || !isWithin(is, 0, 1)) {
            return refuse(BEYOND);
        }
        Pass pass = now.pass;
        int was = pass.drops >> cell & 1;
        if (was != is) {
            pass.drops ^= 1 << cell;
        }
        return was;
    }

    // ---- texts

    public int feed(long word, int n) {
        if (!isWithin(n, 1, 8)) {
            return refuse(BEYOND);
        }
        if (now.tapeSize > TAPE_BYTES - n) {
            return refuse(FULL);
        }
        now.takesBytes(word, n);
        return now.tapeSize;
    }

    public int text(int use) {
        if (!isUse(use)) {
            return refuse(BEYOND);
        }
        int fault = reader.faultOf(now.tapeSize, use);
        now.tapeSize = 0;
        if (fault >= 0) {
            return -10 - fault;
        }
        now.lawOf(use).becomes(reader.codes, reader.written);
        return 1;
    }

    public int untell(int use) {
        if (!isUse(use)) {
            return refuse(BEYOND);
        }
        Law law = now.lawOf(use);
        int was = law.size > 0 ? 1 : 0;
        law.size = 0;
        return was;
    }

    public int law(int use, int a, int b, int c) {
        if (!isUse(use)) {
            return refuse(BEYOND);
        }
        return now.lawOf(use).gives(a, b, c);
    }

    // ---- hours

    public int hours(int n) {
        if (!isWithin(n, 1, FAR_HOURS)) {
            return refuse(BEYOND);
        }
        Pass pass = now.pass;
        if (pass.hour > LAST_HOUR - n) {
            return refuse(STATE);
        }
        for (int i = 0; i < n; i++) {
            pass.anHourGoes(Pass.ALL);
        }
        return pass.through();
    }

    public int loose(int n) {
        if (!isWithin(n, 1, DRAWN_HOURS)) {
            return refuse(BEYOND);
        }
        Pass pass = now.pass;
        if (pass.hour > LAST_HOUR - n) {
            return refuse(STATE);
        }
        for (int i = 0; i < n; i++) {
            now.drawsAnHour();
        }
        return pass.through();
    }

    public int hour(int v) {
        if (!isWithin(v, 0, LAST_HOUR)) {
            return refuse(BEYOND);
        }
        int was = now.pass.hour;
        now.pass.hour = v;
        return was;
    }

    public int seed(int v) {
        int was = now.z;
        now.z = v;
        return was;
    }

    // ---- what would be

    public int then(int person, int n, int what) {
        if (!isPerson(person) || !isWithin(n, 0, FAR_HOURS) || !isWithin(what, 0, 1)) {
            return refuse(BEYOND);
        }
        thought.starts();
        thought.goesOn(person, n);
        Pass pass = thought.pass;
        if (what == 0) {
            return pass.at[person];
        }
        return pass.lost[person] ? 1 : 0;
    }

    public int soonest(int person, int cell) {
        if (!isPerson(person) || !isCell(cell)) {
            return refuse(BEYOND);
        }
        thought.starts();
        int hours = thought.hoursTo(person, cell, FAR_HOURS);
        return hours < 0 ? refuse(NONE) : hours;
    }

    public int least(int person, int cell, int n) {
        if (!isPerson(person) || !isCell(cell) || !isNear(n)) {
            return refuse(BEYOND);
        }
        for (int sure = 0; sure < SURES; sure++) {
            if (thought.comesWith(person, sure, cell, n)) {
                return sure;
            }
        }
        return refuse(NONE);
    }

    public int fills(int person, int cell, int n, int what) {
        if (!isPerson(person) || !isCell(cell) || !isNear(n) || !isWithin(what, 0, 1)) {
            return refuse(BEYOND);
        }
        int filled = thought.leastFilled(person, cell, n);
        if (filled < 0) {
            return refuse(NONE);
        }
        return what == 0 ? Integer.bitCount(filled) : filled;
    }

    public int withWhom(int person, int n) {
        if (!isPerson(person) || !isNear(n)) {
            return refuse(BEYOND);
        }
        int whom = -1;
        int farthest = -1;
        for (int other = 0; other < now.pass.people; other++) {
            int far = other == person ? -1 : thought.howFarWith(person, other, n);
            if (far > farthest) {
                farthest = far;
                whom = other;
            }
        }
        return whom < 0 ? refuse(NONE) : whom;
    }

    public int odds(int person, int cell, int n, int part) {
        if (!isPerson(person) || !isCell(cell) || !isNear(n) || !isWithin(part, 0, 1)) {
            return refuse(BEYOND);
        }
        int come = 0;
        for (int sure = 0; sure < SURES; sure++) {
            if (thought.comesWith(person, sure, cell, n)) {
                come++;
            }
        }
        int common = commonDivisor(come, SURES);
        return (part == 0 ? come : SURES) / common;
    }

    public int fits(int sheet, int person, int what) {
        if (!isSheet(sheet) || !isPerson(person) || !isWithin(what, 0, 1)) {
            return refuse(BEYOND);
        }
        if (sheets.isMissing(sheet)) {
            return refuse(NONE);
        }
        int fitting = 0;
        int first = -1;
        for (int sure = 0; sure < SURES; sure++) {
            if (thought.clearsAs(person, sure, sheets.rows[sheet], sheets.sizes[sheet])) {
                first = first < 0 ? sure : first;
                fitting++;
            }
        }
        if (what == 0) {
            return fitting;
        }
        return first < 0 ? refuse(NONE) : first;
    }

    // ---- voices, sheets, images, what is told

    public int voice(int person, int voice, int x) {
        if (!isPerson(person) || !isWithin(voice, 0, Voices.PARTS)) {
            return refuse(BEYOND);
        }
        int said = voices.speaks(now.pass.kinds[person], person, now.pass.numbers[person], voice, x);
        return voices.isParted ? refuse(PARTED) : said;
    }

    public int body(int i) {
        if (!isWithin(i, 0, voices.begun - 1)) {
            return refuse(NONE);
        }
        return voices.trace[i];
    }

    public int sheet(int sheet, int bits, int n) {
        if (!isSheet(sheet) || bits != 0 && bits != 8 && bits != 16 && bits != 32) {
            return refuse(BEYOND);
        }
        if (bits == 0) {
            sheets.lays(sheet, 0, 0);
            return 1;
        }
        if (n < 0) {
            return refuse(STATE);
        }
        if (n > Sheets.LONGEST) {
            return refuse(BEYOND);
        }
        sheets.lays(sheet, bits, n);
        return 1;
    }

    public int put(int sheet, int i, int v) {
        if (!isSheet(sheet)) {
            return refuse(BEYOND);
        }
        if (sheets.isMissing(sheet)) {
            return refuse(NONE);
        }
        if (!isWithin(i, 0, sheets.sizes[sheet] - 1)) {
            return refuse(BEYOND);
        }
        sheets.rows[sheet][i] = sheets.lowest(sheet, v);
        return 1;
    }

    public int move(int sheet, int i, int other, int j, int n) {
        if (!isSheet(sheet) || !isSheet(other)) {
            return refuse(BEYOND);
        }
        if (sheets.isMissing(sheet) || sheets.isMissing(other)) {
            return refuse(NONE);
        }
        if (sheets.bits[sheet] != sheets.bits[other]) {
            return refuse(UNLIKE);
        }
        if (!sheets.holds(sheet, i, n) || !sheets.holds(other, j, n)) {
            return refuse(BEYOND);
        }
        System.arraycopy(sheets.rows[sheet], i, sheets.rows[other], j, n);
        return n;
    }

    public int sures(int sheet) {
        if (!isSheet(sheet)) {
            return refuse(BEYOND);
        }
        if (sheets.isMissing(sheet)) {
            return refuse(NONE);
        }
        int[] row = sheets.rows[sheet];
        int most = Math.min(sheets.sizes[sheet], now.pass.people);
        int done = 0;
        while (done < most && isSure(row[done])) {
            now.pass.sures[done] = row[done];
            done++;
        }
        return done;
    }

    public int judge(int sheet) {
        if (!isSheet(sheet)) {
            return refuse(BEYOND);
        }
        if (sheets.isMissing(sheet)) {
            return refuse(NONE);
        }
        return now.pass.howManyAre(now.pass.at, sheets.rows[sheet], sheets.sizes[sheet]);
    }

    public int image() {
        kept.copies(now);
        images++;
        return images;
    }

    public int restore() {
        if (images == 0) {
            return refuse(NONE);
        }
        now.copies(kept);
        return now.pass.hour;
    }

    public int tell(int v) {
        if (now.waiting >= MOST_WAITING) {
            return refuse(FULL);
        }
        now.waits[now.waiting] = v;
        now.waiting++;
        return now.waiting;
    }

    public int check() {
        int told = now.waiting;
        int right = now.pass.howManyAre(now.pass.sures, now.waits, told);
        now.waiting = 0;
        return right == told ? 0 : 1 + right;
    }

    public int count(int what) {
        switch (what) {
            case 0: return now.pass.people;
            case 1: return now.pass.drops;
            case 2: return now.pass.hour;
            case 3: return now.pass.through();
            case 4: return now.tapeSize;
            case 5: return now.waiting;
            case 6: return voices.begun;
            case 7: return now.z;
            default: return refuse(BEYOND);
        }
    }

    public int told(int k) {
        if (!isWithin(k, 1, ERRORS)) {
            return refuse(BEYOND);
        }
        return errors[k];
    }

    // ---- what is asked of arguments

    private int refuse(int k) {
        errors[k]++;
        return LOW - k;
    }

    private boolean isPerson(int person) {
        return person >= 0 && person < now.pass.people;
    }

    private static boolean isWithin(int v, int low, int high) {
        return v >= low && v <= high;
    }

    private static boolean isKindAndNumber(int km) {
        return isWithin(km, 0, 10 * KINDS - 1);
    }

    private static boolean isSure(int v) {
        return isWithin(v, 0, SURES - 1);
    }

    private static boolean isCell(int v) {
        return isWithin(v, 0, LAST_CELL);
    }

    private static boolean isNear(int n) {
        return isWithin(n, 0, NEAR_HOURS);
    }

    private static boolean isUse(int use) {
        return isWithin(use, 0, USES - 1);
    }

    private static boolean isSheet(int sheet) {
        return isWithin(sheet, 0, Sheets.MOST - 1);
    }

    private static boolean isKindOrUnder(int kind, int above) {
        int k = kind;
        for (int up = 0; up < KINDS && k >= 0; up++) {
            if (k == above) {
                return true;
            }
            k = ABOVE[k];
        }
        return false;
    }

    private static int commonDivisor(int a, int b) {
        int high = b;
        int low = a;
        for (int i = 0; i < SURES && low != 0; i++) {
            int rest = high % low;
            high = low;
            low = rest;
        }
        return high == 0 ? 1 : high;
    }

    /** All that an IMAGE keeps. */
    private static final class State {
        final Law clear = new Law(0);
        final Law pace = new Law(1);
        final Pass pass = new Pass(clear, pace);
        final int[] tape = new int[TAPE_BYTES];
        int tapeSize = 0;
        final int[] waits = new int[MOST_WAITING];
        int waiting = 0;
        int z = 1;

        void copies(State other) {
            clear.copies(other.clear);
            pace.copies(other.pace);
            pass.copies(other.pass);
            System.arraycopy(other.tape, 0, tape, 0, TAPE_BYTES);
            tapeSize = other.tapeSize;
            System.arraycopy(other.waits, 0, waits, 0, MOST_WAITING);
            waiting = other.waiting;
            z = other.z;
        }

        Law lawOf(int use) {
            return use == 0 ? clear : pace;
        }

        void takesBytes(long word, int n) {
            for (int i = 0; i < n && tapeSize < TAPE_BYTES; i++) {
                tape[tapeSize] = (int) (word >>> 8 * i) & 255;
                tapeSize++;
            }
        }

        int draws() {
            z = z * 1103515245 + 12345;
            return z >>> 8;
        }

        void drawsAnHour() {
            if (pass.people > 0) {
                int person = draws() % pass.people;
                int more = draws() % 21 - 10;
                pass.sures[person] = Math.max(0, Math.min(SURES - 1, pass.sures[person] + more));
            }
            int cell = 1 + draws() % 14;
            if (draws() % 8 == 0) {
                pass.drops ^= 1 << cell;
            }
            pass.anHourGoes(Pass.ALL);
        }
    }

    /** The pass, its people and its HOUR. */
    private static final class Pass {
        static final int ALL = -1;

        final Law clear;
        final Law pace;
        final int[] kinds = new int[MOST_PEOPLE];
        final int[] numbers = new int[MOST_PEOPLE];
        final int[] sures = new int[MOST_PEOPLE];
        final int[] at = new int[MOST_PEOPLE];
        final boolean[] lost = new boolean[MOST_PEOPLE];
        int people = 0;
        int drops = 0;
        int hour = 0;

        Pass(Law clear, Law pace) {
            this.clear = clear;
            this.pace = pace;
        }

        /** All but the laws, which stay this one's own. */
        void copies(Pass other) {
            people = other.people;
            drops = other.drops;
            hour = other.hour;
            for (int i = 0; i < people; i++) {
                kinds[i] = other.kinds[i];
                numbers[i] = other.numbers[i];
                sures[i] = other.sures[i];
                at[i] = other.at[i];
                lost[i] = other.lost[i];
            }
        }

        int takesIn(int kind, int m, int sure) {
            int person = people;
            kinds[person] = kind;
            numbers[person] = m;
            sures[person] = sure;
            stands(person, 0);
            people++;
            return person;
        }

        void stands(int person, int cell) {
            at[person] = cell;
            lost[person] = false;
        }

        int clearFor(int person) {
            return clear.gives(sees(person), sures[person], hour % 24);
        }

        int paceOf(int person, int clearFor) {
            return pace.gives(clearFor, numbers[person], kinds[person]);
        }

        int sees(int person) {
            int asMan = sures[person] / 10;
            int m = numbers[person];
            switch (kinds[person]) {
                case DRUMMER: return asMan / 2;
                case DEPENDS: return asMan < 3 ? 0 : asMan - 3;
                case LIAR: return 9 + m;
                case HONEYMOON: return asMan / 2 + together(person);
                case PILGRIM: return 1 + m % 2;
                case OLD: return asMan + hour % 5;
                default: return asMan;
            }
        }

        int together(int person) {
            int others = 0;
            for (int i = 0; i < people; i++) {
                if (i != person && at[i] == at[person] && !lost[i]) {
                    others++;
                }
            }
            return others;
        }

        boolean falls(int person) {
            int m = numbers[person];
            switch (kinds[person]) {
                case DEPENDS: return sures[person] < 10 + m;
                case LIAR: return true;
                case OLD: return hour % 24 > 20 - m;
                default: return false;
            }
        }

        /**
         * An HOUR as far as it matters for one: only HONEYMOON looks at others, so that for another KIND
         * they may stay where they are.
         */
        void anHourGoes(int person) {
            boolean all = person == ALL || kinds[person] == HONEYMOON;
            for (int i = 0; i < people; i++) {
                if (!lost[i] && at[i] < LAST_CELL && (all || i == person)) {
                    int clearNow = clearFor(i);
                    goes(i, Math.min(paceOf(i, clearNow), clearNow), falls(i));
                }
            }
            hour++;
        }

        void goes(int person, int steps, boolean falling) {
            for (int i = 0; i < steps && at[person] < LAST_CELL; i++) {
                boolean isDrop = (drops >> at[person] + 1 & 1) != 0;
                if (isDrop && !falling) {
                    return;
                }
                at[person]++;
                if (isDrop) {
                    lost[person] = true;
                    return;
                }
            }
        }

        int through() {
            int set = 0;
            for (int i = 0; i < people; i++) {
                if (at[i] == LAST_CELL) {
                    set |= 1 << i;
                }
            }
            return set;
        }

        /** How many of PEOPLE 0, 1, .. are, by what each is, as a row tells, up to the first who isn't. */
        int howManyAre(int[] each, int[] row, int size) {
            int right = 0;
            while (right < size && right < people && row[right] == each[right]) {
                right++;
            }
            return right;
        }
    }

    /** What would be on the pass: worked out on one pass of its own, so that the true one stays. */
    private static final class Thought {
        final Pass truth;
        final Pass pass;

        Thought(Pass truth) {
            this.truth = truth;
            this.pass = new Pass(truth.clear, truth.pace);
        }

        void starts() {
            pass.copies(truth);
        }

        void goesOn(int person, int n) {
            for (int i = 0; i < n; i++) {
                pass.anHourGoes(person);
            }
        }

        /** Behind how many HOURS (most at most) one is AT a CELL or beyond, not LOST; -1 if not by then. */
        int hoursTo(int person, int cell, int most) {
            for (int hours = 0; hours <= most && !pass.lost[person]; hours++) {
                if (pass.at[person] >= cell) {
                    return hours;
                }
                pass.anHourGoes(person);
            }
            return -1;
        }

        boolean comesWith(int person, int sure, int cell, int n) {
            starts();
            pass.sures[person] = sure;
            return hoursTo(person, cell, n) >= 0;
        }

        boolean comesWithout(int filled, int person, int cell, int n) {
            starts();
            pass.drops &= ~filled;
            return hoursTo(person, cell, n) >= 0;
        }

        /** The least of the smallest sets of DROPS (2 at most) that are to be none; -1 if 2 are too few. */
        int leastFilled(int person, int cell, int n) {
            if (comesWithout(0, person, cell, n)) {
                return 0;
            }
            for (int high = 1; high < LAST_CELL; high++) {
                if (isDrop(high) && comesWithout(1 << high, person, cell, n)) {
                    return 1 << high;
                }
            }
            // By the higher of two first: the set with the lower higher bit is the less.
            for (int high = 2; high < LAST_CELL; high++) {
                for (int low = 1; low < high; low++) {
                    int two = 1 << high | 1 << low;
                    if (isDrop(high) && isDrop(low) && comesWithout(two, person, cell, n)) {
                        return two;
                    }
                }
            }
            return -1;
        }

        boolean isDrop(int cell) {
            return (truth.drops >> cell & 1) != 0;
        }

        /** How far one gets from another one's CELL, starting there and not LOST; 0 if LOST in the end. */
        int howFarWith(int person, int other, int n) {
            starts();
            pass.stands(person, truth.at[other]);
            goesOn(person, n);
            return pass.lost[person] ? 0 : pass.at[person] - truth.at[other];
        }

        boolean clearsAs(int person, int sure, int[] row, int size) {
            starts();
            pass.sures[person] = sure;
            for (int i = 0; i < size; i++) {
                if (pass.clearFor(person) != row[i]) {
                    return false;
                }
                pass.anHourGoes(person);
            }
            return true;
        }
    }

    /** What a USE gives: by its TEXT, kept as codes in the order in which they are worked out, or without one. */
    private static final class Law {
        /** A code from here on is a NAME: no NUMBER comes so high. */
        static final int NAMES = 10000;

        final int use;
        final int[] codes = new int[TAPE_BYTES];
        final int[] open = new int[TAPE_BYTES];
        int size = 0;

        Law(int use) {
            this.use = use;
        }

        void copies(Law other) {
            becomes(other.codes, other.size);
        }

        void becomes(int[] others, int n) {
            System.arraycopy(others, 0, codes, 0, n);
            size = n;
        }

        int gives(int a, int b, int c) {
            int top = 0;
            for (int i = 0; i < size; i++) {
                int code = codes[i];
                if (code >= 0 && top < TAPE_BYTES) {
                    open[top] = code < NAMES ? code : code == NAMES ? a : code == NAMES + 1 ? b : c;
                    top++;
                } else if (code == -'!' && top > 0) {
                    open[top - 1] = open[top - 1] == 0 ? 1 : 0;
                } else if (top > 1) {
                    top--;
                    open[top - 1] = joined(-code, open[top - 1], open[top]);
                }
            }
            int given = top > 0 ? open[0] : without(a);
            int most = use == 0 ? 20 : 3;
            return given < 0 ? 0 : given > most ? most : given;
        }

        int without(int c) {
            if (use == 0) {
                return c;
            }
            return c > 3 ? 2 : 1;
        }

        static int joined(int sign, int a, int b) {
            switch (sign) {
                case '|': return a != 0 || b != 0 ? 1 : 0;
                case '&': return a != 0 && b != 0 ? 1 : 0;
                case '<': return a < b ? 1 : 0;
                case '=': return a == b ? 1 : 0;
                case '>': return a > b ? 1 : 0;
                case '+': return a + b;
                case '-': return a - b;
                case '*': return a * b;
                case '/': return b == 0 ? 0 : a / b;
                case '%': return b == 0 ? 0 : a % b;
                default: return 0;
            }
        }
    }

    /** Reads THE TAPE by the rules of TEXTS; it stops at the first byte with which none goes on. */
    private static final class Reader {
        static final int OR = 0;
        static final int COMPARED = 2;
        static final int UNIT = 5;
        static final int MOST_OPEN = 5;
        static final int MOST_DIGITS = 4;

        final int[] tape;
        final int[] codes = new int[TAPE_BYTES];
        int written = 0;
        int size = 0;
        int place = 0;
        String names = "";

        Reader(int[] tape) {
            this.tape = tape;
        }

        /** The FAULT of THE TAPE as the TEXT of a USE, or -1 if it is one: then its codes are written. */
        int faultOf(int bytes, int use) {
            size = bytes;
            names = use == 0 ? "csh" : "cmk";
            place = 0;
            written = 0;
            return reads(OR, 0) && place == size ? -1 : place;
        }

        /** Reads a row of parts that signs of one rank join: T, A, B, S, P; or a Q. */
        private boolean reads(int rank, int open) {
            if (rank >= UNIT) {
                return readsUnit(open);
            }
            if (!reads(rank + 1, open)) {
                return false;
            }
            for (int i = 0; i < TAPE_BYTES && rankOf(next()) == rank; i++) {
                int sign = next();
                place++;
                if (!reads(rank + 1, open)) {
                    return false;
                }
                writes(-sign);
                if (rank == COMPARED) {
                    return true;
                }
            }
            return true;
        }

        private boolean readsUnit(int open) {
            int first = next();
            if (isDigit(first)) {
                return readsNumber();
            }
            int name = first < 0 ? -1 : names.indexOf((char) first);
            if (name >= 0) {
                place++;
                writes(Law.NAMES + name);
                return true;
            }
            if (first != '!' && first != '(' || open >= MOST_OPEN) {
                return false;
            }
            place++;
            return first == '!' ? readsNot(open + 1) : readsInner(open + 1);
        }

        private boolean readsNumber() {
            int v = 0;
            for (int i = 0; i < MOST_DIGITS && isDigit(next()); i++) {
                v = v * 10 + next() - '0';
                place++;
            }
            writes(v);
            return true;
        }

        private boolean readsNot(int open) {
            if (!readsUnit(open)) {
                return false;
            }
            writes(-'!');
            return true;
        }

        private boolean readsInner(int open) {
            if (!reads(OR, open) || next() != ')') {
                return false;
            }
            place++;
            return true;
        }

        private int next() {
            return place < size ? tape[place] : -1;
        }

        private void writes(int code) {
            if (written < TAPE_BYTES) {
                codes[written] = code;
                written++;
            }
        }

        private static boolean isDigit(int b) {
            return b >= '0' && b <= '9';
        }

        private static int rankOf(int b) {
            switch (b) {
                case '|': return OR;
                case '&': return 1;
                case '<': case '=': case '>': return COMPARED;
                case '+': case '-': return 3;
                case '*': case '/': case '%': return 4;
                default: return -1;
            }
        }
    }

    /** The BODIES of the VOICES, THE TRACE of the latest one and whether it PARTED. */
    private static final class Voices {
        static final int SAYS = 0;
        static final int SEES = 1;
        static final int WALKS = 2;
        static final int PARTS = 3;
        static final int EACH = 4;
        static final int LONGEST = 30;
        /** More levels than any VOICE opens. */
        static final int DEEPEST = 20;
        /** By KIND and VOICE; 0 where a KIND has no BODY of its own. */
        private static final int[] BODIES = {
            10, 11, 12, 13,
            20, 0, 0, 21,
            0, 30, 0, 0,
            0, 0, 40, 0,
            50, 0, 51, 0,
            0, 60, 0, 0,
            70, 71, 0, 0,
        };

        final int[] trace = new int[LONGEST];
        int begun = 0;
        boolean isParted = false;
        int kind;
        int k;
        int m;

        int speaks(int itsKind, int number, int itsM, int voice, int x) {
            kind = itsKind;
            k = number;
            m = itsM;
            begun = 0;
            isParted = false;
            return worksOut(bodyFrom(itsKind, voice), x, 0);
        }

        private int says(int x, int depth) {
            return worksOut(bodyFrom(kind, SAYS), x, depth);
        }

        private int sees(int x, int depth) {
            return worksOut(bodyFrom(kind, SEES), x, depth);
        }

        private int above(int body, int voice, int x, int depth) {
            return worksOut(bodyFrom(ABOVE[body / 10 - 1], voice), x, depth);
        }

        private int partsBy(int by, int x) {
            if (by == 0) {
                isParted = true;
                return 0;
            }
            return x / by;
        }

        private int worksOut(int body, int x, int depth) {
            // PARTED is all that voice() answers: no BODY begins any more behind the one that parted.
            if (isParted || body == 0 || depth > DEEPEST) {
                return 0;
            }
            begins(body);
            int deeper = depth + 1;
            switch (body) {
                case 10: return x + k;
                case 11: return says(x, deeper) * 2;
                case 12: return sees(x, deeper) - m;
                case 13: return partsBy(m - k, x);
                case 20: return above(body, SAYS, x, deeper) - 4;
                case 21: return above(body, PARTS, x, deeper) + sees(1, deeper);
                case 30: return 0 - above(body, SEES, x, deeper);
                case 40: return above(body, WALKS, x / 2, deeper);
                case 50: return above(body, SAYS, x, deeper) * 3;
                case 51: return above(body, WALKS, x, deeper) ^ k;
                case 60: return above(body, SEES, x + 1, deeper);
                case 70: return 9;
                case 71: return above(body, SEES, x, deeper) + m;
                default: return 0;
            }
        }

        private void begins(int body) {
            if (begun < LONGEST) {
                trace[begun] = body;
                begun++;
            }
        }

        /** The BODY of a VOICE of a KIND, or of the next KIND above that has one. */
        private static int bodyFrom(int from, int voice) {
            int k = from;
            for (int up = 0; up < KINDS && k >= 0; up++) {
                int body = BODIES[EACH * k + voice];
                if (body != 0) {
                    return body;
                }
                k = ABOVE[k];
            }
            return 0;
        }
    }

    /** Rows of numbers of so many bits; 0 bits: the row is missing. */
    private static final class Sheets {
        static final int MOST = 4;
        static final int LONGEST = 24;

        final int[] bits = new int[MOST];
        final int[] sizes = new int[MOST];
        final int[][] rows = new int[MOST][LONGEST];

        boolean isMissing(int sheet) {
            return bits[sheet] == 0;
        }

        void lays(int sheet, int itsBits, int n) {
            bits[sheet] = itsBits;
            sizes[sheet] = n;
            for (int i = 0; i < n; i++) {
                rows[sheet][i] = 0;
            }
        }

        int lowest(int sheet, int v) {
            switch (bits[sheet]) {
                case 8: return (byte) v;
                case 16: return (short) v;
                default: return v;
            }
        }

        boolean holds(int sheet, int i, int n) {
            return n >= 0 && i >= 0 && i <= sizes[sheet] - n;
        }
    }
}
