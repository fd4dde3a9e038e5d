import java.io.IOException;
import java.util.function.Predicate;

/** Term 1 as far as it tells of HOURS and DRAWS, and promises 13 to 16, at their boundaries. */
public final class HoursBoundaryTest {
    private static final int LEAST = Integer.MIN_VALUE;
    private static final int MOST = Integer.MAX_VALUE;

    private HoursBoundaryTest() {
    }

    public static void main(String[] args) throws IOException {
        Sentences s = new Sentences("HoursBoundaryTest");
        setsOut(s);
        steps(s);
        drops(s);
        byDraws(s);
        draws(s);
        hours(s);
        loose(s);
        hour(s);
        seed(s);
        s.close();
    }

    /** One of a km AT a CELL, where the TEXTS give so much. */
    private static AnswerPass one(int km, int at, int clear, int pace) {
        AnswerPass x = Passes.with(km, 50);
        x.puts(0, at);
        Due.tells(x, 0, "0000".substring(clear > 9 ? 2 : 1) + clear);
        Due.tells(x, 1, "0" + pace);
        return x;
    }

    private static void setsOut(Sentences s) {
        s.test("Term 1", "PEOPLE by numbers who are not LOST", due -> {
            AnswerPass x = Passes.with(30, 0, 0, 10);
            x.drop(1, 1);
            x.hours(1);
            x.drop(1, 0);
            due.is(0, x.hours(1), "who is LOST stands still");
            due.is(1, x.personIs(0, 3), "where one fell, though it is no DROP any more");
            due.is(1, x.personIs(0, 4), "and is LOST");
            due.is(1, x.personIs(1, 3), "another one goes on");
            x = Passes.with(0, 10, 40, 0);
            x.hours(1);
            due.is(1, x.personIs(0, 3), "the first has gone");
            due.is(0, x.personIs(1, 3), "when the second, alone then, sets out");
            x = Passes.with(40, 0, 0, 10);
            x.hours(1);
            due.is(1, x.personIs(0, 3), "the first sets out, and the second is TOGETHER with one");
            due.is(1, x.personIs(1, 3), "the second goes, too");
        });
        s.test("Term 1", "CLEAR, PACE, whether one FALLS, are as one sets out", due -> {
            AnswerPass x = Passes.with(40, 0, 0, 0, 0, 0, 0, 0);
            Due.tells(x, 1, "3");
            x.hours(1);
            due.is(3, x.personIs(0, 3), "three TOGETHER as one set out, none on the way");
            x.hours(1);
            due.is(3, x.personIs(0, 3), "alone one stays");
        });
        s.test("Term 1", "Then HOUR is 1 more", due -> {
            AnswerPass x = Passes.with(0, 0, 0, 0);
            Due.tells(x, 0, "h=5");
            x.hour(5);
            x.hours(1);
            due.is(6, x.count(2), "HOUR behind one");
            due.is(1, x.personIs(0, 3), "the first set out in HOUR 5");
            due.is(1, x.personIs(1, 3), "the second, too");
            x.hours(23);
            due.is(29, x.count(2), "HOUR behind 24");
            due.is(1, x.personIs(1, 3), "not in HOURS 6 to 28");
            x.hours(1);
            due.is(2, x.personIs(1, 3), "but in HOUR 29");
            x = new AnswerPass();
            x.hours(60);
            due.is(60, x.count(2), "HOUR without PEOPLE");
        });
    }

    private static void steps(Sentences s) {
        s.test("Term 1", "one goes on a CELL, again and again, PACE times", due -> {
            for (int pace = 0; pace <= 3; pace++) {
                AnswerPass x = one(0, 0, 20, pace);
                x.hours(1);
                due.is(pace, x.personIs(0, 3), "by PACE " + pace);
            }
        });
        s.test("Term 1", "but no more than CLEAR times", due -> {
            for (int clear = 0; clear <= 4; clear++) {
                AnswerPass x = one(0, 2, clear, 3);
                x.hours(1);
                due.is(2 + Math.min(clear, 3), x.personIs(0, 3), "by CLEAR " + clear);
            }
        });
        s.test("Term 1", "no further than 15", due -> {
            for (int at = 11; at <= 15; at++) {
                AnswerPass x = one(30, at, 20, 3);
                due.is(at >= 12 ? 1 : 0, x.hours(1), "who is THROUGH, from " + at);
                due.is(Math.min(at + 3, 15), x.personIs(0, 3), "AT, from " + at);
                due.is(0, x.personIs(0, 4), "not LOST, from " + at);
                due.is(1, x.hours(60), "THROUGH in the end");
                due.is(15, x.personIs(0, 3), "AT 15 in the end");
            }
        });
    }

    private static void drops(Sentences s) {
        s.test("Term 1", "if the next CELL is a DROP, one who FALLS goes there, and is LOST (and stops)", due -> {
            for (int cell = 1; cell <= 14; cell++) {
                for (int back = 1; back <= Math.min(3, cell); back++) {
                    AnswerPass x = one(30, cell - back, 20, 3);
                    x.drop(cell, 1);
                    x.hours(1);
                    due.is(cell, x.personIs(0, 3), "who FALLS is AT the DROP " + cell + " from " + back + " ahead");
                    due.is(1, x.personIs(0, 4), "and is LOST");
                }
            }
            AnswerPass x = one(30, 0, 20, 3);
            x.drop(4, 1);
            x.hours(1);
            due.is(0, x.personIs(0, 4), "ahead of the DROP one is not LOST");
            x = one(30, 4, 20, 3);
            x.drop(4, 1);
            x.hours(1);
            due.is(7, x.personIs(0, 3), "from a DROP one goes on");
            x = one(30, 4, 20, 0);
            x.drop(5, 1);
            x.hours(1);
            due.is(4, x.personIs(0, 3), "who does not go does not fall");
            x = one(30, 4, 0, 3);
            x.drop(5, 1);
            x.hours(1);
            due.is(0, x.personIs(0, 4), "nor does one for whom nothing is CLEAR");
        });
        s.test("Term 1", "another one stops ahead of it", due -> {
            for (int cell = 1; cell <= 14; cell++) {
                for (int back = 1; back <= Math.min(3, cell); back++) {
                    AnswerPass x = one(0, cell - back, 20, 3);
                    x.drop(cell, 1);
                    x.hours(9);
                    due.is(cell - 1, x.personIs(0, 3), "who does not FALL stops ahead of " + cell + " from " + back + " ahead");
                    due.is(0, x.personIs(0, 4), "and is not LOST");
                }
            }
            AnswerPass x = one(0, 4, 20, 3);
            x.drop(4, 1);
            x.hours(1);
            due.is(7, x.personIs(0, 3), "from a DROP one goes on");
        });
        s.test("Term 1", "FALLS, are as one sets out", due -> {
            AnswerPass x = Passes.with(60, 30);
            x.drop(1, 1);
            x.hour(20);
            x.hours(1);
            due.is(0, x.personIs(0, 4), "OLD does not fall in HOUR 20, though it is 21 then");
            due.is(0, x.personIs(0, 3), "and stops ahead");
            x.hours(1);
            due.is(1, x.personIs(0, 4), "but in HOUR 21");
        });
    }

    // ---- draws, worked out here in longs

    private static int drawn(int z) {
        long next = z * 1103515245L + 12345L;
        return (int) (next & 0xFFFFFFFFL);
    }

    private static int given(int z) {
        return (int) ((z & 0xFFFFFFFFL) / 256);
    }

    /** What four draws from z on give; behind them z. */
    private static int[] four(int z) {
        int[] d = new int[5];
        int next = z;
        for (int i = 0; i < 4; i++) {
            next = drawn(next);
            d[i] = given(next);
        }
        d[4] = next;
        return d;
    }

    private static int seedFor(Predicate<int[]> wanted) {
        for (int z = 1; z < 10000000; z++) {
            if (wanted.test(four(z))) {
                return z;
            }
        }
        throw new IllegalStateException("no such z");
    }

    private static void byDraws(Sentences s) {
        s.test("Term 1", "if there are PEOPLE, two draws", due -> {
            AnswerPass x = new AnswerPass();
            x.loose(1);
            due.is(drawn(drawn(1)), x.count(7), "without PEOPLE there are only the other two");
            for (int people = 1; people <= 6; people++) {
                x = new AnswerPass();
                for (int i = 0; i < people; i++) {
                    x.person(0, 50);
                }
                x.loose(1);
                due.is(four(1)[4], x.count(7), "four draws with PEOPLE: " + people);
            }
        });
        s.test("Term 1", "SURE of the one that is the first one's rest by how many there are is more by the second one's rest by 21, less 10", due -> {
            for (int people = 1; people <= 6; people++) {
                for (int who = 0; who < people; who++) {
                    int n = people;
                    int one = who;
                    int z = seedFor(d -> d[0] % n == one && d[1] % 21 - 10 != 0);
                    AnswerPass x = new AnswerPass();
                    for (int i = 0; i < people; i++) {
                        x.person(0, 50);
                    }
                    x.seed(z);
                    x.loose(1);
                    for (int i = 0; i < people; i++) {
                        due.is(50 + (i == who ? four(z)[1] % 21 - 10 : 0), x.personIs(i, 2), "SURE of " + i + " of " + people + " where it is " + who);
                    }
                }
            }
        });
        s.test("Term 1", "(held within 0 .. 99)", due -> {
            int[][] sureMoreDue = {{89, 10, 99}, {90, 10, 99}, {99, 10, 99}, {98, 1, 99}, {99, 1, 99}, {50, 10, 60}, {10, -10, 0}, {9, -10, 0}, {0, -10, 0},
                {11, -10, 1}, {1, -1, 0}, {0, -1, 0}, {0, 0, 0}, {99, 0, 99}, {88, 10, 98}};
            for (int[] m : sureMoreDue) {
                AnswerPass x = Passes.with(0, m[0]);
                x.seed(seedFor(d -> d[1] % 21 - 10 == m[1]));
                x.loose(1);
                due.is(m[2], x.personIs(0, 2), "SURE " + m[0] + " and " + m[1]);
            }
        });
        s.test("Term 1", "if the second one's rest by 8 is 0, the CELL that is 1 and the first one's rest by 14 is a DROP, if it was none, or none", due -> {
            for (int rest = 0; rest < 14; rest++) {
                int itsRest = rest;
                int z = seedFor(d -> d[0] % 14 == itsRest && d[1] % 8 == 0);
                AnswerPass x = new AnswerPass();
                x.seed(z);
                x.loose(1);
                due.is(2 << rest, x.count(1), "the CELL of rest " + rest + " is a DROP");
                x.seed(z);
                x.loose(1);
                due.is(0, x.count(1), "and none again");
            }
            for (int rest = 1; rest < 8; rest++) {
                int itsRest = rest;
                AnswerPass x = new AnswerPass();
                x.seed(seedFor(d -> d[1] % 8 == itsRest));
                x.loose(1);
                due.is(0, x.count(1), "no DROP by rest " + rest);
            }
        });
        s.test("Term 1", "then AN HOUR", due -> {
            AnswerPass x = Passes.with(0, 9);
            x.seed(seedFor(d -> d[1] % 21 == 11 && d[3] % 8 != 0));
            x.loose(1);
            due.is(1, x.personIs(0, 3), "SURE is more ahead of the HOUR");
            x = Passes.with(0, 50);
            x.seed(seedFor(d -> d[2] % 14 == 0 && d[3] % 8 == 0));
            x.loose(1);
            due.is(2, x.count(1), "CELL 1 is a DROP");
            due.is(0, x.personIs(0, 3), "ahead of the HOUR");
            due.is(1, x.count(2), "HOUR is 1 more");
        });
    }

    private static void draws(Sentences s) {
        s.test("Term 1", "DRAWS: z is told (1 at first)", due -> {
            AnswerPass x = new AnswerPass();
            due.is(1, x.count(7), "z at first");
            x.loose(1);
            AnswerPass y = new AnswerPass();
            y.seed(1);
            y.loose(1);
            due.is(y.count(7), x.count(7), "as if 1 had been told");
        });
        s.test("Term 1", "each makes it z * 1103515245 + 12345 (an int), and gives z >>> 8", due -> {
            int[] seeds = {0, 1, -1, MOST, LEAST, 2147483641, -1000000001};
            for (int seed : seeds) {
                AnswerPass x = Passes.with(0, 50, 0, 50, 0, 50, 0, 50, 0, 50);
                x.seed(seed);
                x.loose(1);
                int[] d = four(seed);
                due.is(d[4], x.count(7), "z behind four draws from " + seed);
                due.is(d[3] % 8 == 0 ? 2 << d[2] % 14 : 0, x.count(1), "DROPS from " + seed);
                for (int i = 0; i < 5; i++) {
                    due.is(50 + (i == d[0] % 5 ? d[1] % 21 - 10 : 0), x.personIs(i, 2), "SURE of " + i + " from " + seed);
                }
            }
            // Where z is below 0, z >> 8 would be, too, and its rests would be others.
            for (int at = 0; at < 2; at++) {
                int place = at;
                int z = seedFor(d -> d[place] >= 1 << 23 && d[1] % 8 == 0);
                AnswerPass x = new AnswerPass();
                x.seed(z);
                x.loose(1);
                due.is(2 << four(z)[0] % 14, x.count(1), "a DROP by draw " + at + " of a z below 0");
            }
        });
    }

    private static AnswerPass at(int hour) {
        AnswerPass x = Passes.rich();
        x.hour(hour);
        return x;
    }

    private static void hours(Sentences s) {
        s.test("Promise 13", "n (1 .. 60) HOURS go by: who is THROUGH, as a set", due -> {
            AnswerPass x = new AnswerPass();
            due.is(0, x.hours(1), "nobody");
            due.is(0, x.hours(60), "nobody still");
            due.is(61, x.count(2), "HOUR");
            x = Passes.with(0, 10, 30, 0, 0, 0, 0, 10, 0, 10, 0, 10);
            due.is(0, x.hours(7), "LIAR is AT 14");
            due.is(2, x.hours(1), "THROUGH behind 8");
            due.is(2, x.hours(6), "others are AT 14");
            due.is(0b111011, x.hours(1), "THROUGH behind 15");
            due.is(0b111011, x.hours(60), "one never goes");
            x.puts(2, 15);
            due.is(63, x.hours(1), "all six");
        });
        s.test("Promise 13", "BEYOND.", due -> Refused.beyond(due, (x, v) -> x.hours(v), new int[] {0, -1, 61, LEAST, MOST}, "hours"));
        s.test("Promise 13", "STATE: HOUR would be above 9999", due -> {
            for (int n : new int[] {1, 2, 59, 60}) {
                AnswerPass x = at(9999 - n);
                due.is(0, x.hours(n), "hours up to 9999: " + n);
                due.is(9999, x.count(2), "HOUR");
                Refused.is(due, Due.STATE, () -> at(10000 - n), y -> y.hours(n), "hours up to 10000: " + n);
            }
            Refused.is(due, Due.STATE, () -> at(9999), x -> x.hours(60), "60 HOURS behind 9999");
        });
        s.test("Promise 13", "BEYOND. STATE:", due -> {
            Refused.is(due, Due.BEYOND, () -> at(9999), x -> x.hours(61), "61 HOURS behind 9999");
            Refused.is(due, Due.BEYOND, () -> at(9999), x -> x.hours(MOST), "all too many behind 9999");
            Refused.is(due, Due.BEYOND, () -> at(9999), x -> x.hours(0), "no HOURS behind 9999");
        });
    }

    private static void loose(Sentences s) {
        s.test("Promise 14", "n (1 .. 30) HOURS BY DRAWS: who is THROUGH, as a set", due -> {
            AnswerPass x = new AnswerPass();
            due.is(0, x.loose(30), "nobody");
            due.is(30, x.count(2), "HOUR");
            int z = 1;
            for (int i = 0; i < 60; i++) {
                z = drawn(z);
            }
            due.is(z, x.count(7), "two draws an HOUR");
            AnswerPass y = new AnswerPass();
            for (int i = 0; i < 30; i++) {
                y.loose(1);
            }
            due.is(x.count(1), y.count(1), "30 HOURS at once are 30 HOURS one by one");
            x = Passes.with(0, 0, 0, 0, 0, 0, 0, 0, 0, 0, 0, 0);
            x.puts(0, 15);
            due.is(1, x.loose(1) & 1, "who is THROUGH stays so");
            for (int i = 0; i < 6; i++) {
                x.puts(i, 15);
            }
            due.is(63, x.loose(30), "all six");
        });
        s.test("Promise 14", "BEYOND.", due -> Refused.beyond(due, (x, v) -> x.loose(v), new int[] {0, -1, 31, 60, LEAST, MOST}, "loose"));
        s.test("Promise 14", "STATE: HOUR would be above 9999", due -> {
            for (int n : new int[] {1, 2, 29, 30}) {
                AnswerPass x = at(9999 - n);
                x.loose(n);
                due.is(9999, x.count(2), "HOUR, by draws: " + n);
                Refused.is(due, Due.STATE, () -> at(10000 - n), y -> y.loose(n), "loose up to 10000: " + n);
            }
        });
        s.test("Promise 14", "BEYOND. STATE:", due -> {
            Refused.is(due, Due.BEYOND, () -> at(9999), x -> x.loose(31), "31 HOURS behind 9999");
            Refused.is(due, Due.BEYOND, () -> at(9999), x -> x.loose(-1), "less than none behind 9999");
        });
    }

    private static void hour(Sentences s) {
        s.test("Promise 15", "HOUR becomes v: what it was", due -> {
            AnswerPass x = Passes.rich();
            due.is(77, x.hour(9999), "to the last");
            due.is(9999, x.hour(0), "to the first");
            due.is(0, x.hour(0), "to the same");
            due.is(0, x.count(2), "HOUR");
        });
        s.test("Promise 15", "BEYOND.", due -> Refused.beyond(due, (x, v) -> x.hour(v), Refused.outside(0, 9999), "hour"));
    }

    private static void seed(Sentences s) {
        s.test("Promise 16", "z becomes v: what it was (any number)", due -> {
            AnswerPass x = new AnswerPass();
            int was = 1;
            for (int v : new int[] {0, -1, LEAST, MOST, -1000000001, -1000000006, 7}) {
                due.is(was, x.seed(v), "seed tells what it was");
                due.is(v, x.count(7), "z");
                was = v;
            }
            for (int k = 1; k <= 6; k++) {
                due.is(0, x.told(k), "none of them is an ERROR");
            }
        });
    }
}
