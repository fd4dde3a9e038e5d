import java.io.IOException;

/** Term 4 as far as it tells of SHEETS, and promises 26 to 30, at their boundaries. */
public final class SheetsBoundaryTest {
    private static final int LEAST = Integer.MIN_VALUE;
    private static final int MOST = Integer.MAX_VALUE;
    private static final int[] BITS = {8, 16, 32};

    private SheetsBoundaryTest() {
    }

    public static void main(String[] args) throws IOException {
        Sentences s = new Sentences("SheetsBoundaryTest");
        sheets(s);
        sheet(s);
        put(s);
        move(s);
        moveRefused(s);
        sures(s);
        judge(s);
        s.close();
    }

    private static AnswerPass six() {
        return Passes.with(0, 0, 0, 0, 0, 0, 0, 0, 0, 0, 0, 0);
    }

    /** The first numbers of a SHEET, each 0 to 99, as they become SURE of PEOPLE. */
    private static void holds(Due due, AnswerPass x, int sheet, String what, int... numbers) {
        due.is(Math.min(numbers.length, x.count(0)), x.sures(sheet), "numbers of " + what);
        for (int i = 0; i < numbers.length; i++) {
            due.is(numbers[i], x.personIs(i, 2), "number " + i + " of " + what);
        }
    }

    private static void sheets(Sentences s) {
        s.test("Term 4", "SHEETS 0 .. 3 are rows of 8, 16, 32 bits, at most 24 numbers, or missing (as at first)", due -> {
            AnswerPass x = Passes.with(0, 0);
            for (int sheet = 0; sheet < 4; sheet++) {
                due.is(Due.NONE, x.judge(sheet), "SHEET " + sheet + " is missing at first");
                for (int bits : BITS) {
                    due.is(1, x.sheet(sheet, bits, 24), "24 numbers of " + bits + " bits");
                    due.is(1, x.put(sheet, 23, 7), "the last of 24");
                    due.is(Due.BEYOND, x.put(sheet, 24, 7), "none behind it");
                    due.is(Due.BEYOND, x.sheet(sheet, bits, 25), "25 numbers of " + bits + " bits");
                }
            }
            due.is(Due.BEYOND, x.sheet(4, 8, 1), "no SHEET 4");
        });
        s.test("Term 4", "SHEETS 0 .. 3 are rows", due -> {
            AnswerPass x = Passes.with(0, 0);
            for (int sheet = 0; sheet < 4; sheet++) {
                Passes.lays(x, sheet, 8, 10 + sheet);
            }
            for (int sheet = 0; sheet < 4; sheet++) {
                holds(due, x, sheet, "SHEET " + sheet, 10 + sheet);
            }
        });
    }

    private static void sheet(Sentences s) {
        s.test("Promise 26", "A SHEET has n numbers, all 0, of so many bits", due -> {
            for (int n : new int[] {0, 1, 23, 24}) {
                AnswerPass x = six();
                x.sheet(0, 8, 24);
                for (int i = 0; i < 24; i++) {
                    x.put(0, i, 5);
                }
                due.is(1, x.sheet(0, 16, n), "numbers anew: " + n);
                due.is(n, x.move(0, 0, 0, 0, n), "as many as that");
                due.is(Due.BEYOND, x.move(0, 0, 0, 0, n + 1), "and no more");
                due.is(Math.min(n, 6), x.judge(0), "the first are 0");
                for (int i = 0; i < n; i++) {
                    x.answers(0, 50);
                    x.move(0, i, 0, 0, 1);
                    x.sures(0);
                    due.is(0, x.personIs(0, 2), "number " + i + " is 0");
                }
                x.sheet(0, 8, 24);
                due.is(6, x.judge(0), "all 0 again where there were none");
            }
        });
        s.test("Promise 26", "0: it is missing, n doesn't matter", due -> {
            for (int n : new int[] {0, 1, -1, 24, 25, LEAST, MOST}) {
                AnswerPass x = six();
                due.is(1, x.sheet(0, 0, n), "a missing one is missing, n " + n);
                x.sheet(0, 8, 3);
                due.is(1, x.sheet(0, 0, n), "one that was there is missing, n " + n);
                due.is(Due.NONE, x.put(0, 0, 1), "it is missing");
                due.is(0, x.told(1) + x.told(3), "no ERROR by n " + n);
            }
        });
        s.test("Promise 26", "BEYOND.", due -> {
            for (int bits = 0; bits <= 32; bits += 8) {
                int itsBits = bits;
                Refused.beyond(due, (x, v) -> x.sheet(v, itsBits, 1), Refused.NO_SHEET, "sheet");
            }
            Refused.beyond(due, (x, v) -> x.sheet(0, v, 1), new int[] {-1, 1, 7, 9, 15, 17, 24, 31, 33, 64, -8, LEAST, MOST}, "sheet of bits");
            for (int bits : BITS) {
                Refused.beyond(due, (x, v) -> x.sheet(0, bits, v), new int[] {25, MOST}, "sheet of numbers");
            }
        });
        s.test("Promise 26", "STATE: n is below 0 (ahead of BEYOND of n)", due -> {
            for (int bits : BITS) {
                Refused.is(due, Due.STATE, x -> x.sheet(0, bits, -1), "-1 numbers");
                Refused.is(due, Due.STATE, x -> x.sheet(3, bits, LEAST), "less still, of a missing one");
            }
        });
        s.test("Promise 26", "BEYOND. STATE:", due -> {
            Refused.is(due, Due.BEYOND, x -> x.sheet(4, 8, -1), "-1 numbers of no SHEET");
            Refused.is(due, Due.BEYOND, x -> x.sheet(0, 7, -1), "-1 numbers of 7 bits");
        });
    }

    private static void put(Sentences s) {
        s.test("Promise 27", "Number i of a SHEET becomes v (its lowest bits): 1", due -> {
            // What is not 0 to 99 is seen by sures() that stops there.
            int[][] bitsVDue = {
                {8, 256, 0}, {8, 257, 1}, {8, 99 - 256, 99}, {8, 100, -1}, {8, -1, -1}, {8, 255, -1}, {8, 128, -1}, {8, LEAST, 0}, {8, MOST, -1},
                {16, 256, -1}, {16, 65536, 0}, {16, 65536 + 99, 99}, {16, 77 - 65536, 77}, {16, 65535, -1}, {16, 32768, -1}, {16, LEAST, 0}, {16, MOST, -1},
                {32, 256, -1}, {32, 65536, -1}, {32, 65536 + 99, -1}, {32, 99, 99}, {32, LEAST, -1}, {32, MOST, -1}, {32, -1, -1}, {32, 0, 0},
            };
            for (int[] b : bitsVDue) {
                AnswerPass x = Passes.with(0, 50);
                x.sheet(0, b[0], 1);
                due.is(1, x.put(0, 0, b[1]), "put " + b[1]);
                due.is(b[2] < 0 ? 0 : 1, x.sures(0), "whether the lowest " + b[0] + " bits of " + b[1] + " are 0 to 99");
                due.is(b[2] < 0 ? 50 : b[2], x.personIs(0, 2), "the lowest " + b[0] + " bits of " + b[1]);
            }
        });
        s.test("Promise 27", "Number i of a SHEET", due -> {
            AnswerPass x = six();
            Passes.lays(x, 1, 8, 1, 2, 3, 4, 5, 6);
            due.is(1, x.put(1, 0, 11), "the first");
            due.is(1, x.put(1, 5, 16), "the last");
            holds(due, x, 1, "SHEET 1", 11, 2, 3, 4, 5, 16);
        });
        s.test("Promise 27", "BEYOND: no such SHEET", due -> Refused.beyond(due, (x, v) -> x.put(v, 0, 1), Refused.NO_SHEET, "put to SHEET"));
        s.test("Promise 27", "NONE: it is missing", due -> Refused.is(due, Due.NONE, x -> x.put(3, 0, 1), "put to a missing SHEET"));
        s.test("Promise 27", "BEYOND: no such number", due -> {
            Refused.beyond(due, (x, v) -> x.put(0, v, 1), Refused.outside(0, 2), "put to number");
            Refused.beyond(due, (x, v) -> x.put(2, v, 1), new int[] {-1, 0, 1, 23, 24}, "put to an empty SHEET's number");
        });
        s.test("Promise 27", "BEYOND: no such SHEET. NONE: it is missing. BEYOND: no such number", due -> {
            Refused.is(due, Due.BEYOND, x -> x.put(4, -1, 1), "no such SHEET, no such number");
            Refused.is(due, Due.NONE, x -> x.put(3, -1, 1), "a missing one, no such number");
            Refused.is(due, Due.NONE, x -> x.put(3, 24, 1), "a missing one, too high a number");
        });
    }

    private static void move(Sentences s) {
        s.test("Promise 28", "come to another one (or the same), from its number j on, as they all were: n", due -> {
            AnswerPass x = six();
            Passes.lays(x, 0, 8, 1, 2, 3, 4, 5, 6);
            due.is(5, x.move(0, 0, 0, 1, 5), "one up");
            holds(due, x, 0, "one up", 1, 1, 2, 3, 4, 5);
            due.is(5, x.move(0, 1, 0, 0, 5), "one down");
            holds(due, x, 0, "one down", 1, 2, 3, 4, 5, 5);
            due.is(6, x.move(0, 0, 0, 0, 6), "all to themselves");
            holds(due, x, 0, "all as they were", 1, 2, 3, 4, 5, 5);
            due.is(3, x.move(0, 0, 0, 3, 3), "the first half to the second");
            holds(due, x, 0, "the first half twice", 1, 2, 3, 1, 2, 3);
            Passes.lays(x, 3, 8, 9, 9, 9);
            due.is(1, x.move(0, 5, 3, 2, 1), "the last to another one's last");
            holds(due, x, 3, "the other", 9, 9, 3);
            holds(due, x, 0, "where they came from", 1, 2, 3, 1, 2, 3);
        });
        s.test("Promise 28", "n numbers of a SHEET", due -> {
            for (int bits : BITS) {
                AnswerPass x = Passes.with(0, 0);
                x.sheet(0, bits, 24);
                x.sheet(1, bits, 24);
                x.sheet(2, bits, 0);
                x.put(0, 23, 99);
                x.put(0, 0, 98);
                due.is(24, x.move(0, 0, 1, 0, 24), "all 24");
                holds(due, x, 1, "24", 98);
                due.is(1, x.move(1, 23, 0, 0, 1), "the last of 24");
                holds(due, x, 0, "24", 99);
                due.is(0, x.move(0, 0, 1, 0, 0), "none");
                due.is(0, x.move(0, 24, 1, 24, 0), "none, from the end to the end");
                due.is(0, x.move(2, 0, 2, 0, 0), "none of an empty one");
                due.is(0, x.move(2, 0, 0, 24, 0), "none of an empty one to the end");
            }
        });
    }

    private static void moveRefused(Sentences s) {
        s.test("Promise 28", "BEYOND: no such SHEET", due -> {
            Refused.beyond(due, (x, v) -> x.move(v, 0, 0, 0, 0), Refused.NO_SHEET, "move from SHEET");
            Refused.beyond(due, (x, v) -> x.move(0, 0, v, 0, 0), Refused.NO_SHEET, "move to SHEET");
        });
        s.test("Promise 28", "NONE: one is missing", due -> {
            Refused.is(due, Due.NONE, x -> x.move(3, 0, 0, 0, 0), "from a missing one");
            Refused.is(due, Due.NONE, x -> x.move(0, 0, 3, 0, 0), "to a missing one");
            Refused.is(due, Due.NONE, x -> x.move(3, 0, 3, 0, 0), "within a missing one");
        });
        s.test("Promise 28", "KIND: they are of unlike bits", due -> {
            for (int from : BITS) {
                for (int to : BITS) {
                    AnswerPass x = Passes.with(0, 0);
                    x.sheet(0, from, 1);
                    x.sheet(1, to, 1);
                    due.is(from == to ? 1 : Due.KIND, x.move(0, 0, 1, 0, 1), "from " + from + " to " + to + " bits");
                    due.is(from == to ? 0 : Due.KIND, x.move(0, 0, 1, 0, 0), "none from " + from + " to " + to + " bits");
                }
            }
            Refused.is(due, Due.KIND, x -> x.move(0, 0, 1, 0, 1), "from 8 to 16 bits");
        });
        s.test("Promise 28", "BEYOND: n, i, or j is below 0, or they don't stand there", due -> {
            // SHEET 0 has three numbers, SHEET 2 none, both of 8 bits.
            int[][] fromIToJN = {
                {0, 0, 0, 0, -1}, {0, -1, 0, 0, 1}, {0, 0, 0, -1, 1}, {0, -1, 0, 0, 0}, {0, 0, 0, -1, 0}, {0, 0, 0, 0, 4}, {0, 1, 0, 0, 3}, {0, 0, 0, 1, 3},
                {0, 3, 0, 0, 1}, {0, 0, 0, 3, 1}, {0, 2, 0, 0, 2}, {0, 0, 0, 2, 2}, {0, 0, 2, 0, 1}, {2, 0, 0, 0, 1}, {0, 4, 0, 0, 0}, {0, 0, 0, 4, 0},
                {2, 1, 2, 0, 0}, {2, 0, 2, 1, 0}, {0, MOST, 0, 0, 1}, {0, 0, 0, MOST, 1}, {0, 0, 0, 0, MOST}, {0, 1, 0, 0, MOST}, {0, 0, 0, 1, MOST},
                {0, MOST, 0, MOST, MOST}, {0, LEAST, 0, 0, 1}, {0, 0, 0, LEAST, 1}, {0, 0, 0, 0, LEAST}, {0, 3, 0, 0, LEAST}, {0, 1, 0, 1, -1}, {0, 3, 0, 3, -1},
                {0, MOST, 0, 0, MOST}, {0, LEAST, 0, LEAST, LEAST}, {0, 23, 0, 0, 1}, {0, 0, 0, 0, 24},
            };
            for (int[] m : fromIToJN) {
                Refused.is(due, Due.BEYOND, x -> x.move(m[0], m[1], m[2], m[3], m[4]), "move from " + m[0] + ", " + m[1] + " to " + m[2] + ", " + m[3] + " of " + m[4]);
            }
        });
        s.test("Promise 28", "BEYOND: no such SHEET. NONE: one is missing. KIND: they are of unlike bits. BEYOND:", due -> {
            Refused.is(due, Due.BEYOND, x -> x.move(3, 0, 4, 0, -1), "one is missing, there is no other");
            Refused.is(due, Due.BEYOND, x -> x.move(4, 0, 3, 0, -1), "there is none, the other is missing");
            Refused.is(due, Due.NONE, x -> x.move(3, 0, 1, 0, -1), "one is missing, the other of 16 bits");
            Refused.is(due, Due.NONE, x -> x.move(1, -1, 3, 0, 1), "one of 16 bits, the other is missing");
            Refused.is(due, Due.KIND, x -> x.move(0, -1, 1, 0, 1), "unlike bits, i below 0");
            Refused.is(due, Due.KIND, x -> x.move(0, 0, 1, 0, 25), "unlike bits, too many");
        });
    }

    private static void sures(Sentences s) {
        s.test("Promise 29", "up to the first that is not 0 to 99 (no ERROR then), or for which there is nobody", due -> {
            int[][] firstDue = {{0, 1}, {99, 1}, {100, 0}, {-1, 0}, {LEAST, 0}, {MOST, 0}};
            for (int[] f : firstDue) {
                AnswerPass x = Passes.with(0, 50, 0, 51, 0, 52);
                Passes.lays(x, 0, 32, 7, f[0], 8);
                due.is(f[1] == 0 ? 1 : 3, x.sures(0), "numbers where the second is " + f[0]);
                due.is(7, x.personIs(0, 2), "SURE ahead of " + f[0]);
                due.is(f[1] == 0 ? 51 : f[0], x.personIs(1, 2), "SURE of " + f[0]);
                due.is(f[1] == 0 ? 52 : 8, x.personIs(2, 2), "SURE behind " + f[0]);
                due.is(0, x.told(1), "no ERROR");
            }
            AnswerPass x = new AnswerPass();
            x.sheet(0, 8, 24);
            due.is(0, x.sures(0), "24 numbers, nobody");
            x.person(0, 50);
            due.is(1, x.sures(0), "24 numbers, one");
            due.is(0, x.personIs(0, 2), "whose SURE is 0 then");
            for (int i = 1; i < 6; i++) {
                x.person(0, 50);
            }
            due.is(6, x.sures(0), "24 numbers, six");
            x.answers(0, 50);
            x.sheet(0, 8, 0);
            due.is(0, x.sures(0), "no numbers, six");
            x.sheet(0, 8, 1);
            due.is(1, x.sures(0), "one number, six");
            due.is(0, x.told(1) + x.told(2), "no ERROR");
            x = Passes.rich();
            Passes.lays(x, 0, 8, 1, 2, 3);
            due.is(3, x.sures(0), "who is LOST, too");
            due.is(2, x.personIs(1, 2), "SURE of one who is LOST");
        });
        s.test("Promise 29", "BEYOND: no such SHEET", due -> Refused.beyond(due, (x, v) -> x.sures(v), Refused.NO_SHEET, "sures of SHEET"));
        s.test("Promise 29", "NONE: it is missing", due -> Refused.is(due, Due.NONE, x -> x.sures(3), "sures of a missing SHEET"));
    }

    private static void judge(Sentences s) {
        s.test("Promise 30", "how many are right, from the first on", due -> {
            AnswerPass x = six();
            for (int i = 0; i < 6; i++) {
                x.puts(i, 3 * i);
            }
            for (int wrong = 0; wrong <= 6; wrong++) {
                Passes.lays(x, 0, 8, 0, 3, 6, 9, 12, 15);
                due.is(6, x.judge(0), "all six");
                x.put(0, wrong, 1);
                due.is(wrong, x.judge(0), "up to the first that is wrong: " + wrong);
            }
            Passes.lays(x, 1, 16, 0, 3, 6, 9, 12, 15, 0, 0);
            due.is(6, x.judge(1), "more numbers than PEOPLE");
            Passes.lays(x, 2, 32, 0, 3);
            due.is(2, x.judge(2), "fewer numbers than PEOPLE");
            Passes.lays(x, 2, 32);
            due.is(0, x.judge(2), "no numbers");
            AnswerPass y = new AnswerPass();
            y.sheet(0, 8, 24);
            due.is(0, y.judge(0), "nobody is AT 0");
            due.is(0, y.told(1) + y.told(2), "no ERROR");
            Passes.lays(y, 0, 32, -1, 16);
            due.is(0, y.judge(0), "no CELLS, and nobody");
            AnswerPass lost = Passes.rich();
            Passes.lays(lost, 0, 8, 5, 2, 0);
            due.is(2, lost.judge(0), "AT which one who is LOST is, too");
        });
        s.test("Promise 30", "BEYOND: no such SHEET", due -> Refused.beyond(due, (x, v) -> x.judge(v), Refused.NO_SHEET, "judge of SHEET"));
        s.test("Promise 30", "NONE: it is missing", due -> Refused.is(due, Due.NONE, x -> x.judge(3), "judge of a missing SHEET"));
    }
}
