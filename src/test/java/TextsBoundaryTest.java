import java.io.IOException;

/** Term 2 and promises 9 to 12 at their boundaries. */
public final class TextsBoundaryTest {
    private static final int LEAST = Integer.MIN_VALUE;
    private static final int MOST = Integer.MAX_VALUE;

    private TextsBoundaryTest() {
    }

    public static void main(String[] args) throws IOException {
        Sentences s = new Sentences("TextsBoundaryTest");
        grammar(s);
        open(s);
        ints(s);
        faults(s);
        uses(s);
        feed(s);
        text(s);
        untell(s);
        law(s);
        s.close();
    }

    /** What text(0) answers to each text. */
    private static void texts(Due due, Object... textsAndAnswers) {
        AnswerPass x = new AnswerPass();
        for (int i = 0; i < textsAndAnswers.length; i += 2) {
            String text = (String) textsAndAnswers[i];
            due.is((Integer) textsAndAnswers[i + 1], Due.tells(x, 0, text), "the TEXT " + text);
        }
    }

    /** What the TEXT of CLEAR gives for names 7, 5, 3; each held within 0 .. 20. */
    private static void gives(Due due, Object... textsAndNumbers) {
        AnswerPass x = new AnswerPass();
        for (int i = 0; i < textsAndNumbers.length; i += 2) {
            String text = (String) textsAndNumbers[i];
            due.is(1, Due.tells(x, 0, text), "the TEXT " + text);
            due.is((Integer) textsAndNumbers[i + 1], x.law(0, 7, 5, 3), text + " for 7, 5, 3");
        }
    }

    private static void grammar(Sentences s) {
        s.test("Term 2", "THE TAPE (bytes, at most 60)", due -> {
            AnswerPass x = new AnswerPass();
            Due.feeds(x, "c+".repeat(29) + "17");
            due.is(60, x.count(4), "60 bytes");
            due.is(Due.FULL, x.feed('1', 1), "a 61st");
            due.is(1, x.text(0), "60 bytes are a TEXT");
            due.is(17, x.law(0, 0, 0, 0), "all of its bytes count");
            due.is(20, x.law(0, 29, 0, 0), "and its NAMES");
            Due.feeds(x, "17" + "-c".repeat(29));
            due.is(1, x.text(0), "60 bytes, from a NUMBER on");
            due.is(17, x.law(0, 0, 0, 0), "all of its bytes count");
            due.is(0, x.law(0, 1, 0, 0), "and its NAMES, held");
        });
        s.test("Term 2", "T: A { | A }", due -> texts(due, "c", 1, "c|s", 1, "c|s|h", 1, "|c", -10, "c|", -12, "c||s", -12));
        s.test("Term 2", "A: B { & B }", due -> texts(due, "c&s", 1, "c&s&h", 1, "&c", -10, "c&", -12, "c&&s", -12, "c&|s", -12, "c&s|h&c", 1));
        s.test("Term 2", "B: S, or S < S, S = S, S > S", due -> texts(due, "c<s", 1, "c=s", 1, "c>s", 1, "c<s<h", -13, "c=s=h", -13, "c>s>h", -13,
            "c<s>h", -13, "c<s&c<h|s<h", 1, "(c<s)<h", 1, "c<(s<h)", 1, "<c", -10, "c<", -12, "c<=s", -12, "c==s", -12, "c<s+h<c", -15, "!c<!s", 1,
            "(c<s<h)", -14, "c<s&c<h=s", -17));
        s.test("Term 2", "S: P { + P, - P }", due -> {
            texts(due, "c+s", 1, "c-s", 1, "c+s-h+c", 1, "+c", -10, "-c", -10, "c+", -12, "c-", -12, "c+-s", -12, "c--s", -12, "c+!s", 1);
            gives(due, "c-s-h+20", 19, "c-(s-h)", 5, "c+s-h", 9);
        });
        s.test("Term 2", "P: Q { * Q, / Q, % Q }", due -> {
            texts(due, "c*s", 1, "c/s", 1, "c%s", 1, "c*s/h%c", 1, "*c", -10, "/c", -10, "%c", -10, "c*", -12, "c*/s", -12, "c*-s", -12, "c**s", -12);
            gives(due, "c/s*h", 3, "c/(s*h)", 0, "c%s*h", 6, "c+s*h-9", 13, "c*s%4", 3);
        });
        s.test("Term 2", "a NUMBER of 1 to 4 digits", due -> {
            texts(due, "0", 1, "9", 1, "10", 1, "999", 1, "9999", 1, "0000", 1, "00000", -14, "12345", -14, "99999", -14, "c+12345", -16, "123456789", -14,
                "1234+5678", 1, "(1234)", 1, "1234(", -14, "/", -10, ":", -10, "1:", -11, "1/", -12);
            gives(due, "0", 0, "0009", 9, "0019", 19, "9999-9998", 1, "9999-1000*9-980", 19, "9990-9980+8", 18);
        });
        s.test("Term 2", "a NAME", due -> texts(due, "c", 1, "s", 1, "h", 1, "m", -10, "k", -10, "b", -10, "d", -10, "C", -10, "S", -10, "cs", -11,
            "c1", -11, "1c", -11, "c+m", -12));
        s.test("Term 2", "! Q, ( T )", due -> {
            texts(due, "!c", 1, "!!c", 1, "!(c)", 1, "(!c)", 1, "(c)", 1, "((c))", 1, "!", -11, "(", -11, "()", -11, ")", -10, "(c", -12, "c)", -11, "(c))", -13,
                "c(s)", -11, "(c)(s)", -13, "(c)!s", -13, "c!", -11, "!)", -11, "(c|s&h<c+s*h)", 1, "!c<s", 1);
            gives(due, "!c+2", 2, "!(c-7)+2", 3, "(c|s)+2", 3, "!c=0", 1, "!(c=0)", 1, "!(c=7)", 0);
        });
        s.test("Term 2", "No blanks", due -> texts(due, " c", -10, "c ", -11, "c +s", -11, "c+ s", -12, " ", -10, "1 2", -11, "( c)", -11, "c\ts", -11, "c\n", -11));
    }

    private static void open(Sentences s) {
        s.test("Term 2", "At most 5 of ! and ( are open at once", due -> {
            texts(due, "!!!!!c", 1, "!!!!!!c", -15, "(((((c)))))", 1, "((((((c))))))", -15, "!(!(!c))", 1, "(!(!(c)))", 1, "!(!(!(c)))", -15,
                "(!(!(!c)))", -15, "((((!!c))))", -15, "((((!c))))", 1, "!!!!(c)", 1, "!!!!!(c)", -15, "!!!!(!c)", -15, "(((((!c)))))", -15);
        });
        s.test("Term 2", "are open at once", due -> {
            texts(due, "!c+!c+!c+!c+!c+!c", 1, "(c)+(c)+(c)+(c)+(c)+(c)", 1, "!!!!!c+!!!!!s", 1, "(((((c)+c)+c)+c)+c)", 1, "!(c)+!(c)+!(c)+!(c)", 1,
                "((((!c+!s))))", 1, "((((!c+!!s))))", -18, "((((c)+((s)))))", 1, "((((c)+(((s))))))", -19, "!!!!!1&!!!!!!1", -22);
        });
    }

    private static void ints(Sentences s) {
        s.test("Term 2", "Ints that wrap", due -> {
            AnswerPass x = new AnswerPass();
            Due.tells(x, 0, "c+s=h");
            due.is(1, x.law(0, MOST, 1, LEAST), "the most and 1 is the least");
            due.is(1, x.law(0, LEAST, -1, MOST), "the least and -1 is the most");
            Due.tells(x, 0, "c-s=h");
            due.is(1, x.law(0, LEAST, 1, MOST), "the least less 1 is the most");
            due.is(1, x.law(0, MOST, -1, LEAST), "the most less -1 is the least");
            due.is(1, x.law(0, 0, LEAST, LEAST), "0 less the least is the least");
            Due.tells(x, 0, "c*s=h");
            due.is(1, x.law(0, MOST, 2, -2), "twice the most is -2");
            due.is(1, x.law(0, 65536, 65536, 0), "2 to the 32nd is 0");
            due.is(1, x.law(0, LEAST, -1, LEAST), "the least times -1 is the least");
            Due.tells(x, 0, "9999*9999*9999");
            due.is(0, x.law(0, 0, 0, 0), "what wraps below 0 is held at 0");
            Due.tells(x, 0, "9999*9999*9999*9999");
            due.is(9999 * 9999 * 9999 * 9999 > 0 ? 20 : 0, x.law(0, 0, 0, 0), "what wraps is held where it comes to");
        });
        s.test("Term 2", "/ cut", due -> {
            AnswerPass x = new AnswerPass();
            Due.tells(x, 0, "c/s=h");
            int[][] quotients = {{7, 2, 3}, {-7, 2, -3}, {7, -2, -3}, {-7, -2, 3}, {1, 2, 0}, {-1, 2, 0}, {LEAST, -1, LEAST}, {LEAST, 1, LEAST}, {MOST, -1, -MOST}};
            for (int[] q : quotients) {
                due.is(1, x.law(0, q[0], q[1], q[2]), q[0] + " by " + q[1]);
            }
        });
        s.test("Term 2", "% the rest that it leaves", due -> {
            AnswerPass x = new AnswerPass();
            Due.tells(x, 0, "c%s=h");
            int[][] rests = {{7, 2, 1}, {-7, 2, -1}, {7, -2, 1}, {-7, -2, -1}, {6, 3, 0}, {1, 2, 1}, {-1, 2, -1}, {LEAST, -1, 0}, {LEAST, 10, -8}};
            for (int[] r : rests) {
                due.is(1, x.law(0, r[0], r[1], r[2]), "the rest of " + r[0] + " by " + r[1]);
            }
        });
        s.test("Term 2", "both by 0 are 0", due -> {
            AnswerPass x = new AnswerPass();
            int[] numbers = {0, 1, -1, 7, MOST, LEAST};
            for (int v : numbers) {
                Due.tells(x, 0, "c/s+5");
                due.is(5, x.law(0, v, 0, 0), v + " / 0");
                Due.tells(x, 0, "c%s+5");
                due.is(5, x.law(0, v, 0, 0), v + " % 0");
            }
            gives(due, "7/0", 0, "7%0", 0, "3+7/(c-7)*9", 3, "3+7%(c-7)*9", 3, "1/0/0", 0);
        });
        s.test("Term 2", "| & < = > ! are 1 or 0, what is not 0 being true", due -> {
            AnswerPass x = new AnswerPass();
            String[] signs = {"|", "&", "<", "=", ">"};
            int[][] pairs = {{0, 0}, {0, 9}, {9, 0}, {9, 9}, {-1, 0}, {0, -1}, {-1, LEAST}, {LEAST, MOST}, {MOST, LEAST}, {2, 4}, {LEAST, LEAST}};
            String[] dues = {"00010", "10100", "10001", "11010", "10100", "10001", "11001", "11100", "11001", "11100", "11010"};
            for (int sign = 0; sign < signs.length; sign++) {
                Due.tells(x, 0, "(c" + signs[sign] + "s)+4");
                for (int p = 0; p < pairs.length; p++) {
                    due.is(4 + dues[p].charAt(sign) - '0', x.law(0, pairs[p][0], pairs[p][1], 0), pairs[p][0] + signs[sign] + pairs[p][1]);
                }
            }
            Due.tells(x, 0, "!c+4");
            int[][] nots = {{0, 5}, {1, 4}, {-1, 4}, {LEAST, 4}, {MOST, 4}};
            for (int[] n : nots) {
                due.is(n[1], x.law(0, n[0], 0, 0), "!" + n[0] + "+4");
            }
        });
        s.test("Term 2", "all is worked out", due -> gives(due, "1|c/0", 1, "0&c/0", 0, "0&(c/0)|1", 1, "1|0&0", 1));
    }

    private static void faults(Sentences s) {
        s.test("Term 2", "FAULT: the place of the first byte with which no TEXT goes on", due -> {
            texts(due, "?", -10, "c?", -11, "c+?", -12, "c)c)", -11, "(c+s))+?", -15, "c+1?2?", -13);
            for (int b = 0; b < 256; b++) {
                boolean goesOn = b < 128 && "+-*/%<=>|&".indexOf(b) >= 0;
                AnswerPass x = new AnswerPass();
                x.feed('c', 1);
                x.feed(b, 1);
                due.is(goesOn ? -12 : -11, x.text(0), "c and byte " + b);
            }
        });
        s.test("Term 2", "the place of the first byte", due -> {
            for (int b = 0; b < 256; b++) {
                AnswerPass x = new AnswerPass();
                int answer = b < 128 && "csh0123456789".indexOf(b) >= 0 ? 1 : b == '!' || b == '(' ? -11 : -10;
                x.feed(b, 1);
                due.is(answer, x.text(0), "byte " + b);
            }
        });
        s.test("Term 2", "how many there are, if it ends too early", due -> {
            texts(due, "", -10, "(", -11, "!", -11, "c+", -12, "(c", -12, "(((((c))))", -20, "!!!!!", -15, "c<s=", -13);
            AnswerPass x = new AnswerPass();
            Due.feeds(x, "c+".repeat(30));
            due.is(-70, x.text(0), "60 bytes that end too early");
            Due.feeds(x, "(" + "c+".repeat(29) + "c");
            due.is(-70, x.text(0), "60 bytes, one open");
            Due.feeds(x, "c+".repeat(29) + "c?");
            due.is(-69, x.text(0), "the last of 60 bytes");
        });
    }

    private static void uses(Sentences s) {
        s.test("Term 2", "held within 0 .. 20; without a TEXT c (held likewise)", due -> {
            AnswerPass x = new AnswerPass();
            for (int texts = 0; texts < 2; texts++) {
                int[][] held = {{LEAST, 0}, {-1, 0}, {0, 0}, {1, 1}, {19, 19}, {20, 20}, {21, 20}, {MOST, 20}};
                for (int[] h : held) {
                    due.is(h[1], x.law(0, h[0], 9, 9), "CLEAR of " + h[0]);
                }
                Due.tells(x, 0, "c");
            }
        });
        s.test("Term 2", "h the rest of HOUR by 24", due -> {
            AnswerPass x = Passes.with(0, 0);
            Due.tells(x, 0, "h");
            int[][] hours = {{0, 0}, {1, 1}, {20, 20}, {23, 20}, {24, 0}, {47, 20}, {48, 0}, {9984, 0}, {9999, 15}};
            for (int[] h : hours) {
                x.hour(h[0]);
                due.is(h[1], x.personIs(0, 5), "h in HOUR " + h[0]);
            }
            due.is(20, x.law(0, 0, 0, 25), "h as told to law, held");
        });
        s.test("Term 2", "1 PACE: NAMES c CLEAR, m m, k KIND; held within 0 .. 3", due -> {
            AnswerPass x = new AnswerPass();
            Due.tells(x, 1, "c");
            int[][] held = {{LEAST, 0}, {-1, 0}, {0, 0}, {1, 1}, {2, 2}, {3, 3}, {4, 3}, {MOST, 3}};
            for (int[] h : held) {
                due.is(h[1], x.law(1, h[0], 9, 9), "PACE of " + h[0]);
            }
            due.is(-10, Due.tells(x, 1, "s"), "s is no NAME of PACE");
            due.is(-10, Due.tells(x, 1, "h"), "h is no NAME of PACE");
            due.is(1, Due.tells(x, 1, "m"), "m is one");
            due.is(2, x.law(1, 1, 2, 3), "m is the second");
            due.is(1, Due.tells(x, 1, "k"), "k is one");
            due.is(3, x.law(1, 1, 2, 3), "k is the third");
        });
        s.test("Term 2", "without a TEXT 2, if c is above 3, else 1", due -> {
            AnswerPass x = new AnswerPass();
            int[][] paces = {{LEAST, 1}, {-1, 1}, {0, 1}, {3, 1}, {4, 2}, {20, 2}, {MOST, 2}};
            for (int[] p : paces) {
                due.is(p[1], x.law(1, p[0], 9, 9), "PACE where c is " + p[0]);
            }
        });
    }

    private static AnswerPass taped(int bytes) {
        AnswerPass x = Passes.rich();
        for (int i = x.count(4); i < bytes; i++) {
            x.feed('1', 1);
        }
        return x;
    }

    private static void feed(Sentences s) {
        s.test("Promise 9", "The n lowest bytes (1 .. 8) of a word, the lowest first, come to THE TAPE: how many there are", due -> {
            for (int n = 1; n <= 8; n++) {
                AnswerPass x = new AnswerPass();
                due.is(n, x.feed(0x2B312B632B632B63L, n), n + " bytes");
                due.is(n % 2 == 1 ? 1 : -10 - n, x.text(0), "only the lowest " + n + ", the lowest first");
            }
            AnswerPass x = new AnswerPass();
            due.is(8, x.feed(-1L, 8), "bytes 255");
            due.is(-10, x.text(0), "begin no TEXT");
            due.is(2, x.feed(Long.MIN_VALUE | 0x2B63L, 2), "of a word below 0");
            due.is(3, x.feed(0x34L, 1), "behind those ahead");
            due.is(1, x.text(0), "c+4");
            due.is(9, x.law(0, 5, 0, 0), "is worked out");
            due.is(8, x.feed(0xE32B632B632B63L << 8 | 0x63L, 8), "eight bytes");
            due.is(-11, x.text(0), "of which the second is no sign");
        });
        s.test("Promise 9", "BEYOND.", due -> Refused.beyond(due, (x, v) -> x.feed(0x2B2B2B2BL, v), new int[] {0, -1, 9, 16, LEAST, MOST}, "feed of bytes"));
        s.test("Promise 9", "FULL.", due -> {
            for (int n = 1; n <= 8; n++) {
                int more = n;
                AnswerPass x = taped(60 - n);
                due.is(60, x.feed(0x3131313131313131L, n), n + " bytes that make 60");
                Refused.is(due, Due.FULL, () -> taped(61 - more), y -> y.feed(0, more), n + " bytes that would make 61");
            }
            Refused.is(due, Due.FULL, () -> taped(60), x -> x.feed(0, 8), "eight bytes more than 60");
        });
        s.test("Promise 9", "BEYOND. FULL.", due -> {
            Refused.is(due, Due.BEYOND, () -> taped(60), x -> x.feed(0, 9), "nine bytes more than 60");
            Refused.is(due, Due.BEYOND, () -> taped(60), x -> x.feed(0, 0), "no bytes more than 60");
        });
    }

    private static void text(Sentences s) {
        s.test("Promise 10", "THE TAPE, which is empty then, is the TEXT of a USE (0, 1), in place of one ahead: 1", due -> {
            AnswerPass x = Passes.with(0, 0);
            for (int use = 0; use < 2; use++) {
                due.is(1, Due.tells(x, use, "c+c-c+c"), "a long TEXT");
                due.is(2, x.law(use, 1, 0, 0), "is worked out");
                due.is(0, x.count(4), "THE TAPE is empty then");
                due.is(1, Due.tells(x, use, "3"), "a short one");
                due.is(3, x.law(use, 1, 0, 0), "is in place of the one ahead");
            }
            due.is(1, Due.tells(x, 0, "0"), "a TEXT that gives 0");
            due.is(0, x.law(0, 9, 0, 0), "is a TEXT");
            due.is(3, x.law(1, 1, 0, 0), "the other USE keeps its own");
            due.is(1, x.untell(0), "there is one");
        });
        s.test("Promise 10", "BEYOND (THE TAPE stays)", due -> {
            Refused.beyond(due, (x, v) -> x.text(v), Refused.NO_USE, "text of USE");
            AnswerPass x = Passes.rich();
            x.text(2);
            due.is(3, x.count(4), "THE TAPE stays");
            due.is(1, x.text(0), "and is a TEXT");
            due.is(10, x.law(0, 3, 0, 0), "as it was: c+7");
        });
        s.test("Promise 10", "-10 less the FAULT (no ERROR; the one ahead stays; THE TAPE is empty, too)", due -> {
            for (int use = 0; use < 2; use++) {
                AnswerPass x = new AnswerPass();
                due.is(-10, x.text(use), "an empty TAPE");
                due.is(0, x.untell(use), "makes no TEXT");
                Due.tells(x, use, "c-2");
                due.is(-14, Due.tells(x, use, "c+c+"), "a TEXT that ends too early");
                due.is(0, x.count(4), "THE TAPE is empty");
                due.is(3, x.law(use, 5, 0, 0), "the one ahead stays");
                due.is(-10, x.text(use), "an empty TAPE");
                due.is(3, x.law(use, 5, 0, 0), "the one ahead stays");
                for (int k = 1; k <= 6; k++) {
                    due.is(0, x.told(k), "no ERROR");
                }
                due.is(1, x.untell(use), "there is one still");
            }
        });
    }

    private static void untell(Sentences s) {
        s.test("Promise 11", "There is no TEXT of a USE any more: 1 if there was, else 0", due -> {
            AnswerPass x = new AnswerPass();
            for (int use = 0; use < 2; use++) {
                due.is(0, x.untell(use), "there was none");
                Due.tells(x, use, "0");
                due.is(0, x.untell(1 - use), "nor one of the other USE");
                due.is(0, x.law(use, 9, 0, 0), "it stands");
                due.is(1, x.untell(use), "there was one");
                due.is(use == 0 ? 9 : 2, x.law(use, 9, 0, 0), "it doesn't any more");
                due.is(0, x.untell(use), "there is none any more");
            }
        });
        s.test("Promise 11", "BEYOND.", due -> Refused.beyond(due, (x, v) -> x.untell(v), Refused.NO_USE, "untell of USE"));
    }

    private static void law(Sentences s) {
        s.test("Promise 12", "What a USE gives with its NAMES in order as a, b, c (any number)", due -> {
            AnswerPass x = new AnswerPass();
            int[] numbers = {LEAST, -1000000001, -1, 0, 1, 100, 10000, MOST};
            for (int use = 0; use < 2; use++) {
                for (int v : numbers) {
                    for (int name = 0; name < 3; name++) {
                        due.is(1, Due.tells(x, use, (use == 0 ? "csh" : "cmk").substring(name, name + 1)), "a NAME");
                        int most = use == 0 ? 20 : 3;
                        int[] abc = {5, 5, 5};
                        abc[name] = v;
                        due.is(Math.max(0, Math.min(most, v)), x.law(use, abc[0], abc[1], abc[2]), "USE " + use + ", NAME " + name + " as " + v);
                    }
                }
            }
            due.is(0, x.told(1), "any number is no ERROR");
        });
        s.test("Promise 12", "BEYOND.", due -> Refused.beyond(due, (x, v) -> x.law(v, 1, 2, 3), Refused.NO_USE, "law of USE"));
    }
}
