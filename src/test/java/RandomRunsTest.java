import java.util.Arrays;
import java.util.Random;

/** Long runs of calls, the same on AnswerPass and on Model; the runs are the same each time. */
public final class RandomRunsTest {
    private static final int RUNS = 400;
    private static final int CALLS = 512;
    /** Each call with the kinds of its arguments (see argument()); those that matter most stand more often. */
    private static final String[] CALLS_AND_ARGUMENTS = {
        "person ks", "person ks", "person ks", "personIs pw", "personIs pw", "personIs pw", "become pk", "as pw", "answers ps", "answers ps",
        "puts pc", "puts pc", "drop co", "drop co", "drop co", "feed ln", "text u", "TEXT u", "TEXT u", "TEXT u", "TEXT u", "untell u",
        "law uiii", "law uiii", "law uiii", "hours n", "hours n", "loose n", "loose n", "hour h", "seed i", "then pno", "then pno",
        "soonest pc", "soonest pc", "least pcn", "least pcn", "fills pcno", "fills pcno", "fills pcno", "withWhom pn", "withWhom pn",
        "withWhom pn", "odds pcno", "odds pcno", "fits bpo", "FITS bpo", "FITS bpo", "voice pvi", "VOICE pvi", "body v", "sheet btm", "put bmi",
        "put bmx", "put bmx", "move bmbmm", "MOVE t", "TAPE ", "WAITS ", "SURES b", "judge b", "JUDGE b", "image ", "restore ", "tell s", "CHECK ", "check ", "count w",
        "told q",
    };

    private final Random random;
    private final Due due;
    private final AnswerPass pass = new AnswerPass();
    private final Model model = new Model();
    private final StringBuilder run = new StringBuilder();
    private int calls = 0;

    private RandomRunsTest(int seed, Due due) {
        this.random = new Random(seed);
        this.due = due;
    }

    public static void main(String[] args) {
        Due due = new Due("RandomRunsTest");
        for (int seed = 0; seed < RUNS && due.wrong() == 0; seed++) {
            RandomRunsTest test = new RandomRunsTest(seed, due);
            test.runs();
            if (due.wrong() > 0) {
                System.out.println("run " + seed + ":" + test.run);
            }
        }
        due.close();
    }

    private void runs() {
        while (calls < CALLS && due.wrong() == 0) {
            String[] call = CALLS_AND_ARGUMENTS[random.nextInt(CALLS_AND_ARGUMENTS.length)].split(" ", -1);
            long[] a = new long[call[1].length()];
            for (int i = 0; i < a.length; i++) {
                a[i] = argument(call[1].charAt(i));
            }
            does(call[0], a);
        }
    }

    /** A call, or several calls by which something comes about that single ones seldom bring. */
    private void does(String name, long[] a) {
        switch (name) {
            case "TEXT" -> {
                feeds(a[0] == 0 ? "csh" : "cmk");
                asks("text", a);
            }
            case "FITS" -> {
                int person = (int) a[1];
                asks("sheet", a[0], 8, random.nextInt(5));
                asks("image");
                for (int i = 0; i < 5; i++) {
                    long clear = asks("personIs", person, 5);
                    asks("put", a[0], i, clear);
                    asks("hours", 1);
                }
                asks("restore");
                asks("fits", a);
            }
            case "SURES", "JUDGE" -> {
                asks("sheet", a[0], 16, random.nextInt(8));
                for (int i = 0; i < 7; i++) {
                    asks("put", a[0], i, name.equals("SURES") ? argument('s') : asks("personIs", i, 3));
                }
                asks(name.equals("SURES") ? "sures" : "judge", a);
            }
            case "CHECK" -> {
                asks("check");
                for (int i = random.nextInt(7); i >= 0; i--) {
                    asks("tell", asks("personIs", asks("count", 5), 2));
                }
                asks("check");
            }
            case "MOVE" -> {
                for (int sheet = 0; sheet < 2; sheet++) {
                    asks("sheet", sheet, a[0], 6);
                    for (int i = 0; i < 6; i++) {
                        asks("put", sheet, i, argument('s'));
                    }
                }
                int to = random.nextInt(2);
                asks("move", random.nextInt(2), random.nextInt(4), to, random.nextInt(4), random.nextInt(5));
                asks("sures", to);
                for (int i = 0; i < 6; i++) {
                    asks("personIs", i, 2);
                }
            }
            case "VOICE" -> {
                if (random.nextInt(3) == 0) {
                    asks("become", a[0], 10 * random.nextInt(7) + a[0]);
                    a[1] = 3;
                }
                asks("voice", a);
                for (int i = 0; i < 8; i++) {
                    asks("body", i);
                }
                asks("count", 6);
            }
            case "TAPE" -> {
                for (int i = 0; i < 9; i++) {
                    asks("feed", random.nextBoolean() ? 0x2B632B632B632B63L : 0x2B2821632D282863L, 6 + random.nextInt(3));
                }
                asks("text", 0);
            }
            case "WAITS" -> {
                for (int i = random.nextInt(26); i >= 0; i--) {
                    asks("tell", i);
                }
            }
            default -> asks(name, a);
        }
    }

    private long asks(String name, long... a) {
        calls++;
        if (calls > CALLS) {
            return 0;
        }
        int want = model.call(name, a);
        int got = Calls.call(pass, name, a);
        String call = name + Arrays.toString(a);
        run.append(' ').append(call);
        due.is(want, got, call);
        return got;
    }

    private void feeds(String names) {
        StringBuilder text = new StringBuilder();
        int opens = random.nextInt(3) == 0 ? random.nextInt(7) : 0;
        for (int i = 0; i < opens; i++) {
            text.append(random.nextBoolean() ? '!' : '(');
        }
        int closes = text.chars().map(c -> c == '(' ? 1 : 0).sum();
        writes(text, names, random.nextInt(4));
        for (int i = 0; i < closes; i++) {
            text.append(random.nextInt(3) == 0 ? "+!!c)" : ")");
        }
        if (random.nextInt(4) == 0 && text.length() > 0) {
            int at = random.nextInt(text.length());
            text.setCharAt(at, "csmkh0123456789+-*/%<=>|&!() x".charAt(random.nextInt(30)));
        }
        for (int i = 0; i < text.length(); i += 8) {
            long word = random.nextLong();
            int n = Math.min(8, text.length() - i);
            for (int j = n - 1; j >= 0; j--) {
                word = word << 8 | text.charAt(i + j);
            }
            asks("feed", word, n);
        }
    }

    private void writes(StringBuilder text, String names, int depth) {
        switch (depth <= 0 ? random.nextInt(2) : 2 + random.nextInt(6)) {
            case 0 -> text.append(names.charAt(random.nextInt(3)));
            case 1 -> text.append(random.nextInt(random.nextInt(3) == 0 ? 12000 : 20));
            case 2 -> {
                text.append('!');
                writes(text, names, depth - 1);
            }
            case 3 -> {
                text.append('(');
                writes(text, names, depth - 1);
                text.append(')');
            }
            default -> {
                writes(text, names, depth - 1);
                text.append("+-*/%<=>|&+-".charAt(random.nextInt(12)));
                writes(text, names, depth - 1);
            }
        }
    }

    private long argument(char kind) {
        if (random.nextInt(60) == 0) {
            return new long[] {-1, Integer.MAX_VALUE, Integer.MIN_VALUE, 100, 16, 7}[random.nextInt(6)];
        }
        return switch (kind) {
            case 'p' -> random.nextInt(random.nextInt(4) == 0 ? 7 : 3);
            case 'k' -> random.nextInt(70);
            case 's' -> random.nextInt(random.nextInt(20) == 0 ? 110 : 100);
            case 'c' -> random.nextInt(16);
            case 'w' -> random.nextInt(8);
            case 'o' -> random.nextInt(2);
            case 'u' -> random.nextInt(20) == 0 ? 2 : random.nextInt(2);
            case 'n' -> random.nextInt(random.nextInt(10) == 0 ? 63 : random.nextInt(3) == 0 ? 21 : 6);
            case 'h' -> random.nextInt(10) == 0 ? 9999 - random.nextInt(60) : random.nextInt(10000);
            case 'v' -> random.nextInt(5);
            case 'b' -> random.nextInt(random.nextInt(12) == 0 ? 5 : 3);
            case 't' -> new int[] {8, 8, 16, 32, 0, 7}[random.nextInt(6)];
            case 'm' -> random.nextInt(random.nextInt(6) == 0 ? 26 : 6);
            case 'x' -> random.nextInt(12);
            case 'q' -> 1 + random.nextInt(6);
            case 'l' -> random.nextLong();
            default -> random.nextBoolean() ? random.nextInt(40) - 20 : random.nextInt();
        };
    }
}
