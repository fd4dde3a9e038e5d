import java.util.ArrayList;
import java.util.Arrays;
import java.util.List;

/**
 * The document once more, written another way than AnswerPass: all of the world is copied for every thought, everybody
 * always goes, sets are tried in the order of their size and bits, VOICES are classes, TEXTS trees. Only for tests.
 */
final class Model {
    private static final class Refused extends RuntimeException {
        private static final long serialVersionUID = 1;
        final int k;

        Refused(int k) {
            super(null, null, false, false);
            this.k = k;
        }
    }

    private static final int BEYOND = 1;
    private static final int NONE = 2;
    private static final int STATE = 3;
    private static final int FULL = 4;
    private static final int KIND = 5;
    private static final int PARTED = 6;

    // ---- people: VOICES by Java's own dispatch

    private static class Man {
        int k;
        int m;
        List<Integer> trace;

        int says(int x) {
            trace.add(10);
            return x + k;
        }

        int sees(int x) {
            trace.add(11);
            return says(x) * 2;
        }

        int walks(int x) {
            trace.add(12);
            return sees(x) - m;
        }

        int parts(int x) {
            trace.add(13);
            if (m == k) {
                throw new Refused(PARTED);
            }
            return (int) ((long) x / (m - k));
        }
    }

    private static class Drummer extends Man {
        @Override
        int says(int x) {
            trace.add(20);
            return super.says(x) - 4;
        }

        @Override
        int parts(int x) {
            trace.add(21);
            return super.parts(x) + sees(1);
        }
    }

    private static class Depends extends Man {
        @Override
        int sees(int x) {
            trace.add(30);
            return 0 - super.sees(x);
        }
    }

    private static class Liar extends Man {
        @Override
        int walks(int x) {
            trace.add(40);
            return super.walks(x / 2);
        }
    }

    private static class Honeymoon extends Drummer {
        @Override
        int says(int x) {
            trace.add(50);
            return super.says(x) * 3;
        }

        @Override
        int walks(int x) {
            trace.add(51);
            return super.walks(x) ^ k;
        }
    }

    private static class Pilgrim extends Depends {
        @Override
        int sees(int x) {
            trace.add(60);
            return super.sees(x + 1);
        }
    }

    private static class Old extends Man {
        @Override
        int says(int x) {
            trace.add(70);
            return 9;
        }

        @Override
        int sees(int x) {
            trace.add(71);
            return super.sees(x) + m;
        }
    }

    private static Man ofKind(int kind) {
        return switch (kind) {
            case 1 -> new Drummer();
            case 2 -> new Depends();
            case 3 -> new Liar();
            case 4 -> new Honeymoon();
            case 5 -> new Pilgrim();
            case 6 -> new Old();
            default -> new Man();
        };
    }

    private record One(int kind, int m, int sure, int at, boolean lost) {
        One sure(int v) {
            return new One(kind, m, v, at, lost);
        }

        One stands(int cell) {
            return new One(kind, m, sure, cell, false);
        }

        One goes(int cell, boolean isLost) {
            return new One(kind, m, sure, cell, isLost);
        }
    }

    // ---- texts: trees

    private interface Tree {
        int of(int[] names);
    }

    private static final String[] NAMES = {"csh", "cmk"};
    private static final String[] SIGNS = {"|", "&", "<=>", "+-", "*/%"};

    private static Tree tree(String text, String names) {
        for (String signs : SIGNS) {
            int open = 0;
            for (int i = text.length() - 1; i > 0; i--) {
                char c = text.charAt(i);
                open += c == ')' ? 1 : c == '(' ? -1 : 0;
                if (open == 0 && signs.indexOf(c) >= 0) {
                    Tree left = tree(text.substring(0, i), names);
                    Tree right = tree(text.substring(i + 1), names);
                    return n -> joined(c, left.of(n), right.of(n));
                }
            }
        }
        if (text.charAt(0) == '!') {
            Tree inner = tree(text.substring(1), names);
            return n -> inner.of(n) == 0 ? 1 : 0;
        }
        if (text.charAt(0) == '(') {
            return tree(text.substring(1, text.length() - 1), names);
        }
        int name = names.indexOf(text.charAt(0));
        if (name >= 0) {
            return n -> n[name];
        }
        int v = Integer.parseInt(text);
        return n -> v;
    }

    private static int joined(char sign, int a, int b) {
        long x = a;
        long y = b;
        return (int) switch (sign) {
            case '|' -> x != 0 | y != 0 ? 1 : 0;
            case '&' -> x != 0 & y != 0 ? 1 : 0;
            case '<' -> x < y ? 1 : 0;
            case '=' -> x == y ? 1 : 0;
            case '>' -> x > y ? 1 : 0;
            case '+' -> x + y;
            case '-' -> x - y;
            case '*' -> x * y;
            case '/' -> y == 0 ? 0 : x / y;
            default -> y == 0 ? 0 : x % y;
        };
    }

    /** The FAULT by a machine over the bytes; -1 if there is none. */
    private static int fault(String text, String names) {
        StringBuilder open = new StringBuilder();
        List<Boolean> compared = new ArrayList<>(List.of(false));
        boolean wanting = true;
        int digits = 0;
        for (int i = 0; i < text.length(); i++) {
            char c = text.charAt(i);
            boolean isDigit = c >= '0' && c <= '9';
            int last = compared.size() - 1;
            if (digits > 0 && isDigit) {
                digits++;
                if (digits > 4) {
                    return i;
                }
                continue;
            }
            digits = 0;
            if (wanting) {
                if (isDigit || names.indexOf(c) >= 0) {
                    digits = isDigit ? 1 : 0;
                    wanting = false;
                } else if (c == '!' || c == '(') {
                    if (open.length() == 5) {
                        return i;
                    }
                    open.append(c);
                    if (c == '(') {
                        compared.add(false);
                    }
                } else {
                    return i;
                }
            } else {
                dropNots(open);
                if (c == ')') {
                    if (open.length() == 0) {
                        return i;
                    }
                    open.setLength(open.length() - 1);
                    compared.remove(last);
                } else if ("<=>".indexOf(c) >= 0) {
                    if (compared.get(last)) {
                        return i;
                    }
                    compared.set(last, true);
                    wanting = true;
                } else if ("|&".indexOf(c) >= 0) {
                    compared.set(last, false);
                    wanting = true;
                } else if ("+-*/%".indexOf(c) >= 0) {
                    wanting = true;
                } else {
                    return i;
                }
            }
        }
        return wanting || compared.size() > 1 ? text.length() : -1;
    }

    private static void dropNots(StringBuilder open) {
        while (open.length() > 0 && open.charAt(open.length() - 1) == '!') {
            open.setLength(open.length() - 1);
        }
    }

    // ---- the world

    private static final class World {
        List<One> people = new ArrayList<>();
        boolean[] drops = new boolean[16];
        int hour = 0;
        Tree[] texts = new Tree[2];
        String tape = "";
        List<Integer> waits = new ArrayList<>();
        int z = 1;

        World copy() {
            World w = new World();
            w.people = new ArrayList<>(people);
            w.drops = drops.clone();
            w.hour = hour;
            w.texts = texts.clone();
            w.tape = tape;
            w.waits = new ArrayList<>(waits);
            w.z = z;
            return w;
        }

        World withSure(int person, int sure) {
            World w = copy();
            w.people.set(person, people.get(person).sure(sure));
            return w;
        }

        int law(int use, int... names) {
            int v = texts[use] != null ? texts[use].of(names) : use == 0 ? names[0] : names[0] > 3 ? 2 : 1;
            return Math.max(0, Math.min(use == 0 ? 20 : 3, v));
        }

        int clear(int person) {
            return law(0, sees(person), people.get(person).sure, hour % 24);
        }

        int pace(int person) {
            return law(1, clear(person), people.get(person).m, people.get(person).kind);
        }

        int sees(int person) {
            One one = people.get(person);
            int asMan = one.sure / 10;
            long together = -1;
            for (One other : people) {
                together += other == one || other.at == one.at && !other.lost ? 1 : 0;
            }
            return switch (one.kind) {
                case 0 -> asMan;
                case 1 -> asMan / 2;
                case 2 -> Math.max(0, asMan - 3);
                case 3 -> 9 + one.m;
                case 4 -> asMan / 2 + (int) together;
                case 5 -> 1 + one.m % 2;
                default -> asMan + hour % 5;
            };
        }

        boolean falls(int person) {
            One one = people.get(person);
            return one.kind == 3 || one.kind == 2 && one.sure < 10 + one.m || one.kind == 6 && hour % 24 > 20 - one.m;
        }

        World hours(int n) {
            for (int i = 0; i < n; i++) {
                for (int p = 0; p < people.size(); p++) {
                    goes(p);
                }
                hour++;
            }
            return this;
        }

        private void goes(int p) {
            int clear = clear(p);
            int pace = pace(p);
            boolean falls = falls(p);
            int gone = 0;
            while (!people.get(p).lost && gone < pace && gone < clear && people.get(p).at < 15) {
                int next = people.get(p).at + 1;
                if (drops[next] && !falls) {
                    return;
                }
                people.set(p, people.get(p).goes(next, drops[next]));
                gone++;
            }
        }

        int draw() {
            z = z * 1103515245 + 12345;
            return z >>> 8;
        }

        int through() {
            int set = 0;
            for (int p = 0; p < people.size(); p++) {
                set += people.get(p).at == 15 ? 1 << p : 0;
            }
            return set;
        }

        int dropSet() {
            int set = 0;
            for (int c = 0; c < 16; c++) {
                set += drops[c] ? 1 << c : 0;
            }
            return set;
        }

        /** Behind how many HOURS one comes; -1 if not by n. */
        int comes(int person, int cell, int n) {
            World w = copy();
            for (int i = 0; i <= n; i++) {
                if (w.people.get(person).at >= cell && !w.people.get(person).lost) {
                    return i;
                }
                w.hours(1);
            }
            return -1;
        }
    }

    private World now = new World();
    private World kept = null;
    private int images = 0;
    private List<Integer> trace = new ArrayList<>();
    private final int[] bits = new int[4];
    private final int[][] sheets = new int[4][];
    private final int[] errors = new int[7];

    // ---- calls

    int call(String name, long[] a) {
        int[] i = new int[a.length];
        for (int j = 0; j < a.length; j++) {
            i[j] = (int) a[j];
        }
        try {
            return answer(name, a, i);
        } catch (Refused refused) {
            errors[refused.k]++;
            return -1000000000 - refused.k;
        }
    }

    private static void asks(boolean so, int k) {
        if (!so) {
            throw new Refused(k);
        }
    }

    private static boolean in(int v, int low, int high) {
        return low <= v && v <= high;
    }

    private boolean isOne(int person) {
        return in(person, 0, now.people.size() - 1);
    }

    private int answer(String name, long[] a, int[] i) {
        return switch (name) {
            case "person" -> person(i[0], i[1]);
            case "personIs" -> personIs(i[0], i[1]);
            case "become" -> become(i[0], i[1]);
            case "as" -> as(i[0], i[1]);
            case "answers" -> answers(i[0], i[1]);
            case "puts" -> puts(i[0], i[1]);
            case "drop" -> drop(i[0], i[1]);
            case "feed" -> feed(a[0], i[1]);
            case "text" -> text(i[0]);
            case "untell" -> untell(i[0]);
            case "law" -> law(i[0], i[1], i[2], i[3]);
            case "hours" -> hours(i[0]);
            case "loose" -> loose(i[0]);
            case "hour" -> hour(i[0]);
            case "seed" -> seed(i[0]);
            case "then" -> then(i[0], i[1], i[2]);
            case "soonest" -> soonest(i[0], i[1]);
            case "least" -> least(i[0], i[1], i[2]);
            case "fills" -> fills(i[0], i[1], i[2], i[3]);
            case "withWhom" -> withWhom(i[0], i[1]);
            case "odds" -> odds(i[0], i[1], i[2], i[3]);
            case "fits" -> fits(i[0], i[1], i[2]);
            case "voice" -> voice(i[0], i[1], i[2]);
            case "body" -> body(i[0]);
            case "sheet" -> sheet(i[0], i[1], i[2]);
            case "put" -> put(i[0], i[1], i[2]);
            case "move" -> move(i);
            case "sures" -> sures(i[0]);
            case "judge" -> judge(i[0]);
            case "image" -> image();
            case "restore" -> restore();
            case "tell" -> tell(i[0]);
            case "check" -> check();
            case "count" -> count(i[0]);
            case "told" -> told(i[0]);
            default -> throw new IllegalArgumentException(name);
        };
    }

    private int person(int km, int sure) {
        asks(in(km, 0, 69) && in(sure, 0, 99), BEYOND);
        asks(now.people.size() < 6, FULL);
        now.people.add(new One(km / 10, km % 10, sure, 0, false));
        return now.people.size() - 1;
    }

    private int personIs(int person, int what) {
        asks(isOne(person) && in(what, 0, 7), BEYOND);
        One one = now.people.get(person);
        return switch (what) {
            case 0 -> one.kind;
            case 1 -> one.m;
            case 2 -> one.sure;
            case 3 -> one.at;
            case 4 -> one.lost ? 1 : 0;
            case 5 -> now.clear(person);
            case 6 -> now.pace(person);
            default -> now.falls(person) ? 1 : 0;
        };
    }

    private int become(int person, int km) {
        asks(isOne(person) && in(km, 0, 69), BEYOND);
        One one = now.people.get(person);
        now.people.set(person, new One(km / 10, km % 10, one.sure, one.at, one.lost));
        return one.kind;
    }

    private int as(int person, int kind) {
        asks(isOne(person) && in(kind, 0, 6), BEYOND);
        One one = now.people.get(person);
        asks(ofKind(kind).getClass().isInstance(ofKind(one.kind)), KIND);
        return one.m;
    }

    private int answers(int person, int sure) {
        asks(isOne(person) && in(sure, 0, 99), BEYOND);
        return now.people.set(person, now.people.get(person).sure(sure)).sure;
    }

    private int puts(int person, int cell) {
        asks(isOne(person) && in(cell, 0, 15), BEYOND);
        return now.people.set(person, now.people.get(person).stands(cell)).at;
    }

    private int drop(int cell, int is) {
        asks(in(cell, 1, 14) && in(is, 0, 1), BEYOND);
        int was = now.drops[cell] ? 1 : 0;
        now.drops[cell] = is == 1;
        return was;
    }

    private int feed(long word, int n) {
        asks(in(n, 1, 8), BEYOND);
        asks(now.tape.length() + n <= 60, FULL);
        for (int i = 0; i < n; i++) {
            now.tape += (char) (word >> 8 * i & 255);
        }
        return now.tape.length();
    }

    private int text(int use) {
        asks(in(use, 0, 1), BEYOND);
        String text = now.tape;
        now.tape = "";
        int fault = fault(text, NAMES[use]);
        if (fault >= 0) {
            return -10 - fault;
        }
        now.texts[use] = tree(text, NAMES[use]);
        return 1;
    }

    private int untell(int use) {
        asks(in(use, 0, 1), BEYOND);
        int was = now.texts[use] != null ? 1 : 0;
        now.texts[use] = null;
        return was;
    }

    private int law(int use, int a, int b, int c) {
        asks(in(use, 0, 1), BEYOND);
        return now.law(use, a, b, c);
    }

    private int hours(int n) {
        asks(in(n, 1, 60), BEYOND);
        asks(now.hour + n <= 9999, STATE);
        return now.hours(n).through();
    }

    private int loose(int n) {
        asks(in(n, 1, 30), BEYOND);
        asks(now.hour + n <= 9999, STATE);
        for (int i = 0; i < n; i++) {
            if (!now.people.isEmpty()) {
                int p = now.draw() % now.people.size();
                One one = now.people.get(p);
                int sure = one.sure + now.draw() % 21 - 10;
                now.people.set(p, one.sure(sure < 0 ? 0 : sure > 99 ? 99 : sure));
            }
            int cell = now.draw() % 14 + 1;
            now.drops[cell] ^= now.draw() % 8 == 0;
            now.hours(1);
        }
        return now.through();
    }

    private int hour(int v) {
        asks(in(v, 0, 9999), BEYOND);
        int was = now.hour;
        now.hour = v;
        return was;
    }

    private int seed(int v) {
        int was = now.z;
        now.z = v;
        return was;
    }

    private int then(int person, int n, int what) {
        asks(isOne(person) && in(n, 0, 60) && in(what, 0, 1), BEYOND);
        One one = now.copy().hours(n).people.get(person);
        return what == 0 ? one.at : one.lost ? 1 : 0;
    }

    private int soonest(int person, int cell) {
        asks(isOne(person) && in(cell, 0, 15), BEYOND);
        int hours = now.comes(person, cell, 60);
        asks(hours >= 0, NONE);
        return hours;
    }

    private List<Integer> suresThatCome(int person, int cell, int n) {
        List<Integer> sures = new ArrayList<>();
        for (int sure = 0; sure < 100; sure++) {
            if (now.withSure(person, sure).comes(person, cell, n) >= 0) {
                sures.add(sure);
            }
        }
        return sures;
    }

    private int least(int person, int cell, int n) {
        asks(isOne(person) && in(cell, 0, 15) && in(n, 0, 20), BEYOND);
        List<Integer> sures = suresThatCome(person, cell, n);
        asks(!sures.isEmpty(), NONE);
        return sures.get(0);
    }

    private int fills(int person, int cell, int n, int what) {
        asks(isOne(person) && in(cell, 0, 15) && in(n, 0, 20) && in(what, 0, 1), BEYOND);
        for (int size = 0; size <= 2; size++) {
            for (int set = 0; set < 1 << 16; set++) {
                if (Integer.bitCount(set) == size && (set & now.dropSet()) == set) {
                    World w = now.copy();
                    for (int c = 0; c < 16; c++) {
                        w.drops[c] &= (set >> c & 1) == 0;
                    }
                    if (w.comes(person, cell, n) >= 0) {
                        return what == 0 ? size : set;
                    }
                }
            }
        }
        throw new Refused(NONE);
    }

    private int withWhom(int person, int n) {
        asks(isOne(person) && in(n, 0, 20), BEYOND);
        asks(now.people.size() > 1, NONE);
        int[] far = new int[now.people.size()];
        Arrays.fill(far, -1);
        for (int other = 0; other < far.length; other++) {
            if (other != person) {
                World w = now.copy();
                int from = w.people.get(other).at;
                w.people.set(person, w.people.get(person).stands(from));
                One then = w.hours(n).people.get(person);
                far[other] = then.lost ? 0 : then.at - from;
            }
        }
        int best = Arrays.stream(far).max().getAsInt();
        int whom = 0;
        while (far[whom] < best) {
            whom++;
        }
        return whom;
    }

    private int odds(int person, int cell, int n, int part) {
        asks(isOne(person) && in(cell, 0, 15) && in(n, 0, 20) && in(part, 0, 1), BEYOND);
        int above = suresThatCome(person, cell, n).size();
        int below = 100;
        for (int by = 100; by > 1; by--) {
            if (above % by == 0 && below % by == 0) {
                above /= by;
                below /= by;
            }
        }
        return part == 0 ? above : below;
    }

    private int fits(int sheet, int person, int what) {
        asks(in(sheet, 0, 3) && isOne(person) && in(what, 0, 1), BEYOND);
        asks(sheets[sheet] != null, NONE);
        List<Integer> fitting = new ArrayList<>();
        for (int sure = 0; sure < 100; sure++) {
            boolean fit = true;
            for (int h = 0; h < sheets[sheet].length && fit; h++) {
                fit = now.withSure(person, sure).hours(h).clear(person) == sheets[sheet][h];
            }
            if (fit) {
                fitting.add(sure);
            }
        }
        asks(what == 0 || !fitting.isEmpty(), NONE);
        return what == 0 ? fitting.size() : fitting.get(0);
    }

    private int voice(int person, int voice, int x) {
        asks(isOne(person) && in(voice, 0, 3), BEYOND);
        One one = now.people.get(person);
        Man man = ofKind(one.kind);
        man.k = person;
        man.m = one.m;
        // The same list from here on: what began stays in THE TRACE when parts(..) is PARTED.
        trace = new ArrayList<>();
        man.trace = trace;
        return switch (voice) {
            case 0 -> man.says(x);
            case 1 -> man.sees(x);
            case 2 -> man.walks(x);
            default -> man.parts(x);
        };
    }

    private int body(int i) {
        asks(in(i, 0, trace.size() - 1), NONE);
        return trace.get(i);
    }

    private int sheet(int sheet, int b, int n) {
        asks(in(sheet, 0, 3) && List.of(0, 8, 16, 32).contains(b), BEYOND);
        asks(b == 0 || n >= 0, STATE);
        asks(b == 0 || n <= 24, BEYOND);
        bits[sheet] = b;
        sheets[sheet] = b == 0 ? null : new int[n];
        return 1;
    }

    private int put(int sheet, int i, int v) {
        asks(in(sheet, 0, 3), BEYOND);
        asks(sheets[sheet] != null, NONE);
        asks(in(i, 0, sheets[sheet].length - 1), BEYOND);
        sheets[sheet][i] = bits[sheet] == 32 ? v : v & (1 << bits[sheet]) - 1;
        return 1;
    }

    private int move(int[] a) {
        asks(in(a[0], 0, 3) && in(a[2], 0, 3), BEYOND);
        int[] from = sheets[a[0]];
        int[] to = sheets[a[2]];
        asks(from != null && to != null, NONE);
        asks(bits[a[0]] == bits[a[2]], KIND);
        long n = a[4];
        asks(n >= 0 && a[1] >= 0 && a[3] >= 0 && a[1] + n <= from.length && a[3] + n <= to.length, BEYOND);
        int[] were = from.clone();
        for (int i = 0; i < n; i++) {
            to[a[3] + i] = were[a[1] + i];
        }
        return (int) n;
    }

    private int sures(int sheet) {
        asks(in(sheet, 0, 3), BEYOND);
        asks(sheets[sheet] != null, NONE);
        int done = 0;
        for (int v : sheets[sheet]) {
            if (!in(v, 0, 99) || !isOne(done)) {
                break;
            }
            answers(done, v);
            done++;
        }
        return done;
    }

    private int judge(int sheet) {
        asks(in(sheet, 0, 3), BEYOND);
        asks(sheets[sheet] != null, NONE);
        int right = 0;
        for (int v : sheets[sheet]) {
            if (!isOne(right) || now.people.get(right).at != v) {
                break;
            }
            right++;
        }
        return right;
    }

    private int image() {
        kept = now.copy();
        return ++images;
    }

    private int restore() {
        asks(kept != null, NONE);
        now = kept.copy();
        return now.hour;
    }

    private int tell(int v) {
        asks(now.waits.size() < 24, FULL);
        now.waits.add(v);
        return now.waits.size();
    }

    private int check() {
        List<Integer> told = now.waits;
        now.waits = new ArrayList<>();
        for (int i = 0; i < told.size(); i++) {
            if (!isOne(i) || now.people.get(i).sure != told.get(i)) {
                return 1 + i;
            }
        }
        return 0;
    }

    private int count(int what) {
        asks(in(what, 0, 7), BEYOND);
        return new int[] {
            now.people.size(), now.dropSet(), now.hour, now.through(), now.tape.length(), now.waits.size(), trace.size(), now.z,
        }[what];
    }

    private int told(int k) {
        asks(in(k, 1, 6), BEYOND);
        return errors[k];
    }
}
