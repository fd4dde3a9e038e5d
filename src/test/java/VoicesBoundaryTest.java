import java.io.IOException;

/** Term 4 as far as it tells of VOICES, and promises 24 and 25, at their boundaries. */
public final class VoicesBoundaryTest {
    private static final int LEAST = Integer.MIN_VALUE;
    private static final int MOST = Integer.MAX_VALUE;
    private static final int SAYS = 0;
    private static final int SEES = 1;
    private static final int WALKS = 2;
    private static final int PARTS = 3;

    private VoicesBoundaryTest() {
    }

    public static void main(String[] args) throws IOException {
        Sentences s = new Sentences("VoicesBoundaryTest");
        wraps(s);
        parts(s);
        nextAbove(s);
        voice(s);
        trace(s);
        body(s);
        s.close();
    }

    /** Person k of a KIND, with m. */
    private static AnswerPass numbered(int k, int kind, int m) {
        AnswerPass x = new AnswerPass();
        for (int i = 0; i < k; i++) {
            x.person(0, 0);
        }
        x.person(10 * kind + m, 0);
        return x;
    }

    private static void wraps(Sentences s) {
        s.test("Term 4", "with a number x (ints that wrap)", due -> {
            int[][] kMKindVoiceXDue = {
                {0, 0, 0, SAYS, MOST, MOST}, {1, 0, 0, SAYS, MOST, LEAST}, {5, 0, 0, SAYS, MOST, LEAST + 4}, {0, 0, 0, SEES, MOST, -2},
                {0, 0, 0, SEES, LEAST, 0}, {0, 0, 0, SEES, 1 << 30, LEAST}, {0, 9, 0, WALKS, LEAST, -9}, {0, 9, 0, WALKS, 1 << 30, MOST - 8},
                {0, 0, 1, SAYS, LEAST, MOST - 3}, {0, 0, 1, SAYS, LEAST + 4, LEAST}, {0, 0, 2, SEES, 1 << 30, LEAST}, {0, 0, 2, SEES, -(1 << 30), LEAST},
                {0, 0, 4, SAYS, LEAST, LEAST - 12}, {0, 0, 4, SAYS, MOST, (MOST - 4) * 3}, {1, 0, 4, WALKS, LEAST, -18 ^ 1}, {0, 0, 5, SEES, MOST, 0},
                {0, 0, 5, SEES, (1 << 30) - 1, LEAST}, {0, 9, 6, SEES, MOST, 27}, {5, 0, 3, WALKS, LEAST, LEAST + 10}, {5, 9, 3, WALKS, MOST, MOST - 1 + 10 - 9},
            };
            for (int[] v : kMKindVoiceXDue) {
                AnswerPass x = numbered(v[0], v[2], v[1]);
                due.is(v[5], x.voice(v[0], v[3], v[4]), "voice " + v[3] + " of KIND " + v[2] + ", k " + v[0] + ", m " + v[1] + ", x " + v[4]);
            }
        });
    }

    private static void parts(Sentences s) {
        s.test("Term 4", "13 parts: x by (m - k), cut", due -> {
            int[][] mKXDue = {{2, 0, 7, 3}, {2, 0, -7, -3}, {0, 2, 7, -3}, {0, 2, -7, 3}, {2, 0, 1, 0}, {2, 0, -1, 0}, {9, 0, 8, 0}, {0, 5, 4, 0}, {1, 0, LEAST, LEAST},
                {0, 1, LEAST, LEAST}, {0, 1, MOST, -MOST}, {9, 0, 0, 0}, {6, 5, 7, 7}, {4, 5, 7, -7}};
            for (int[] p : mKXDue) {
                due.is(p[3], numbered(p[1], 0, p[0]).voice(p[1], PARTS, p[2]), p[2] + " by " + p[0] + " - " + p[1]);
            }
        });
        s.test("Term 4", "(PARTED if that is 0; that is all that voice() answers then)", due -> {
            for (int kind = 0; kind < 7; kind++) {
                for (int k = 0; k < 6; k++) {
                    AnswerPass x = numbered(k, kind, k);
                    for (int v : new int[] {0, 1, -1, LEAST, MOST}) {
                        due.is(Due.PARTED, x.voice(k, PARTS, v), "parts of KIND " + kind + ", k and m " + k + ", x " + v);
                    }
                    due.is(5, x.told(6), "PARTED, as told");
                    for (int voice = SAYS; voice < PARTS; voice++) {
                        x.voice(k, voice, 7);
                        due.is(5, x.told(6), "voice " + voice + " is not PARTED");
                    }
                }
            }
        });
        s.test("Term 4", "40 walks: super.walks(x / 2)", due -> {
            int[][] xAndDue = {{0, 0}, {1, 0}, {-1, 0}, {2, 2}, {3, 2}, {-2, -2}, {-3, -2}};
            for (int[] v : xAndDue) {
                due.is(v[1], numbered(0, 3, 0).voice(0, WALKS, v[0]), "walks of a LIAR by " + v[0]);
            }
        });
    }

    private static void nextAbove(Sentences s) {
        s.test("Term 4", "says(..) is the BODY of its KIND, or of the next KIND above that has one", due -> {
            int[][] begins = {{10, 11, 12, 13}, {20, 11, 12, 21}, {10, 30, 12, 13}, {10, 11, 40, 13}, {50, 11, 51, 21}, {10, 60, 12, 13}, {70, 71, 12, 13}};
            for (int kind = 0; kind < 7; kind++) {
                AnswerPass x = numbered(1, kind, 5);
                for (int voice = 0; voice < 4; voice++) {
                    x.voice(1, voice, 9);
                    due.is(begins[kind][voice], x.body(0), "the first BODY of voice " + voice + " of KIND " + kind);
                }
            }
        });
        s.test("Term 4", "super.says(..) that from the KIND above the BODY's on", due -> {
            AnswerPass x = numbered(1, 4, 5);
            due.is((7 + 1 - 4) * 3, x.voice(1, SAYS, 7), "HONEYMOON says by DRUMMER, who says by MAN");
            due.is(7 / 4 + (1 + 1 - 4) * 3 * 2, x.voice(1, PARTS, 7), "HONEYMOON parts by DRUMMER, and sees as HONEYMOON says");
            x = numbered(1, 5, 5);
            due.is(-(8 + 1) * 2, x.voice(1, SEES, 7), "PILGRIM sees by DEPENDS, who sees by MAN");
            due.is(-(8 + 1) * 2 - 5, x.voice(1, WALKS, 7), "PILGRIM walks as MAN, and sees as PILGRIM");
        });
    }

    private static void voice(Sentences s) {
        s.test("Promise 24", "A VOICE of one: any number", due -> {
            AnswerPass x = Passes.with(0, 0);
            for (int v : new int[] {LEAST, -1000000006, -1000000001, -1000000000, -1, 0, MOST}) {
                due.is(v, x.voice(0, SAYS, v), "says " + v);
            }
            for (int k = 1; k <= 6; k++) {
                due.is(0, x.told(k), "none of them is an ERROR");
            }
        });
        s.test("Promise 24", "BEYOND.", due -> {
            for (int voice = 0; voice < 4; voice++) {
                int itsVoice = voice;
                Refused.beyond(due, (x, v) -> x.voice(v, itsVoice, 7), Refused.NOBODY, "voice " + voice + " of nobody");
            }
            Refused.beyond(due, (x, v) -> x.voice(0, v, 7), Refused.outside(0, 3), "voice");
        });
        s.test("Promise 24", "PARTED.", due -> {
            AnswerPass x = numbered(2, 1, 2);
            Passes.lays(x, 0, 8, 1, 2);
            due.is(Due.PARTED, x.voice(2, PARTS, 5), "parts where m is k");
            due.is(1, x.told(6), "told once");
            due.is(2, x.personIs(2, 1), "m stays");
            due.is(0, x.voice(2, SAYS, 2), "the next VOICE answers as ever");
            x.become(2, 13);
            due.is(5 + (1 + 2 - 4) * 2, x.voice(2, PARTS, 5), "the next parts, too, where m is not k");
            due.is(1, x.told(6), "told once");
        });
    }

    private static void trace(Sentences s) {
        s.test("Term 4", "THE TRACE: the numbers of BODIES of the latest voice(), as they began (what stands left is worked out first)", due -> {
            AnswerPass x = numbered(1, 4, 5);
            int[][] traces = {{PARTS, 21, 13, 11, 50, 20, 10}, {SAYS, 50, 20, 10}, {WALKS, 51, 12, 11, 50, 20, 10}, {SEES, 11, 50, 20, 10}, {SAYS, 50, 20, 10}};
            for (int[] t : traces) {
                x.voice(1, t[0], 7);
                due.is(t.length - 1, x.count(6), "BODIES of voice " + t[0]);
                for (int i = 1; i < t.length; i++) {
                    due.is(t[i], x.body(i - 1), "BODY " + (i - 1) + " of voice " + t[0]);
                }
                due.is(Due.NONE, x.body(t.length - 1), "nothing of a VOICE ahead of voice " + t[0]);
            }
            x.voice(0, SAYS, 1);
            due.is(1, x.count(6), "one BODY of another one");
            due.is(10, x.body(0), "which is MAN's");
        });
        s.test("Term 4", "that is all that voice() answers then", due -> {
            for (int kind = 0; kind < 7; kind++) {
                AnswerPass x = numbered(1, kind, 1);
                x.voice(1, WALKS, 7);
                x.voice(1, PARTS, 7);
                boolean byDrummer = kind == 1 || kind == 4;
                due.is(byDrummer ? 2 : 1, x.count(6), "BODIES that began in a voice() that PARTED, KIND " + kind);
                due.is(byDrummer ? 21 : 13, x.body(0), "the first of them, KIND " + kind);
                due.is(byDrummer ? 13 : Due.NONE, x.body(1), "the second of them, KIND " + kind);
            }
        });
        s.test("Term 4", "the first 30", due -> {
            // No VOICE has more than six BODIES, so that all of them are among the first 30.
            for (int kind = 0; kind < 7; kind++) {
                AnswerPass x = numbered(1, kind, 5);
                for (int voice = 0; voice < 4; voice++) {
                    for (int again = 0; again < 11; again++) {
                        x.voice(1, voice, 7);
                    }
                    int bodies = x.count(6);
                    due.holds(bodies >= 1 && bodies <= 6, "BODIES of the latest voice " + voice + " alone, KIND " + kind);
                    due.holds(x.body(bodies - 1) >= 10, "the last of them");
                    due.is(Due.NONE, x.body(29), "no thirtieth");
                    due.is(Due.NONE, x.body(30), "and none behind");
                }
            }
        });
    }

    private static void body(Sentences s) {
        s.test("Promise 25", "THE TRACE's i-th. NONE: there is none such", due -> {
            AnswerPass x = Passes.rich();
            due.is(51, x.body(0), "the first");
            due.is(10, x.body(5), "the last");
            for (int i : new int[] {-1, 6, 29, 30, LEAST, MOST}) {
                Refused.is(due, Due.NONE, y -> y.body(i), "body " + i);
            }
            Refused.is(due, Due.NONE, AnswerPass::new, y -> y.body(0), "body 0 of no TRACE");
            Refused.is(due, Due.NONE, AnswerPass::new, y -> y.body(-1), "body -1 of no TRACE");
        });
    }
}
