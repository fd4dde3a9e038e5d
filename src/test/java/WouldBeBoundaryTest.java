import java.io.IOException;
import java.util.Random;

/** Term 3 and promises 17 to 23 at their boundaries. */
public final class WouldBeBoundaryTest {
    private static final int[] NOT_FAR = Refused.outside(0, 60);
    private static final int[] NOT_NEAR = Refused.outside(0, 20);

    private WouldBeBoundaryTest() {
    }

    public static void main(String[] args) throws IOException {
        Sentences s = new Sentences("WouldBeBoundaryTest");
        onlyThought(s);
        then(s);
        soonest(s);
        least(s);
        fills(s);
        withWhom(s);
        odds(s);
        fits(s);
        s.close();
    }

    private static void onlyThought(Sentences s) {
        s.test("Term 3", "(All this is only thought; HOUR beyond 9999, too.)", due -> {
            AnswerPass x = Passes.rich();
            x.hour(9999);
            x.puts(1, 7);
            AnswerPass y = Passes.rich();
            y.hour(9999);
            y.puts(1, 7);
            for (int person = 0; person < 3; person++) {
                x.then(person, 60, 0);
                x.soonest(person, 15);
                x.least(person, 15, 20);
                x.fills(person, 15, 20, 0);
                x.withWhom(person, 20);
                x.odds(person, 15, 20, 0);
                x.fits(0, person, 0);
            }
            due.is(Due.STATE, x.hours(1), "HOUR is 9999 still");
            y.hours(1);
            due.holds(Seen.of(y).equals(Seen.of(x)), "nothing changes by what is thought");
        });
        s.test("Term 3", "HOUR beyond 9999, too", due -> {
            AnswerPass x = Passes.with(65, 50, 0, 0);
            x.hour(9999);
            x.drop(1, 1);
            // The rest of 9999 by 24 is 15, which is not above 20 less 5; that of 10000 is 16.
            due.is(0, x.then(0, 1, 1), "OLD does not fall in HOUR 9999");
            due.is(1, x.then(0, 2, 1), "but in HOUR 10000");
            Due.tells(x, 0, "h=16");
            due.is(0, x.then(1, 2, 0), "MAN stops ahead of the DROP");
            x.drop(1, 0);
            due.is(2, x.soonest(1, 1), "behind HOUR 10000");
            due.is(26, x.soonest(1, 2), "behind HOUR 10024");
            due.is(0, x.least(1, 1, 2), "LEAST in HOUR 10000");
            due.is(Due.NONE, x.least(1, 1, 1), "not in HOUR 9999");
            due.is(1, x.odds(1, 1, 2, 1), "ODDS in HOUR 10000");
            due.is(0, x.fills(1, 1, 2, 0), "FILLS in HOUR 10000");
            Passes.lays(x, 0, 8, 0, 1, 0);
            due.is(100, x.fits(0, 1, 0), "FITS in HOURS 9999 to 10001");
            due.is(9999, x.count(2), "HOUR");
        });
    }

    private static void then(Sentences s) {
        s.test("Term 3", "THEN: AT which CELL one is, whether LOST, n HOURS on", due -> {
            AnswerPass x = Passes.with(30, 0, 0, 10);
            x.drop(3, 1);
            int[][] byHours = {{0, 0, 0}, {1, 2, 0}, {2, 3, 1}, {3, 3, 1}, {60, 3, 1}};
            for (int[] h : byHours) {
                due.is(h[1], x.then(0, h[0], 0), "AT behind " + h[0]);
                due.is(h[2], x.then(0, h[0], 1), "LOST behind " + h[0]);
            }
            x.hours(2);
            due.is(3, x.then(0, 0, 0), "who is LOST is AT 3");
            due.is(1, x.then(0, 0, 1), "and LOST, behind no HOURS");
            due.is(1, x.then(0, 60, 1), "and behind 60");
            x.drop(3, 0);
            due.is(15, x.then(1, 13, 0), "AT 15 behind 13 HOURS, from 2");
            due.is(15, x.then(1, 60, 0), "and no further");
        });
        s.test("Promise 17", "for n (0 .. 60): what 0 AT which CELL, 1 LOST", due -> {
            AnswerPass x = Passes.with(0, 0);
            Due.tells(x, 0, "h=11");
            due.is(0, x.then(0, 0, 0), "behind 0");
            due.is(2, x.then(0, 59, 0), "behind 59: HOURS 11, 35");
            due.is(3, x.then(0, 60, 0), "behind 60: HOURS 11, 35, 59");
        });
        s.test("Promise 17", "BEYOND.", due -> {
            Refused.beyond(due, (x, v) -> x.then(v, 1, 0), Refused.NOBODY, "then of nobody");
            Refused.beyond(due, (x, v) -> x.then(0, v, 0), NOT_FAR, "then for n");
            Refused.beyond(due, (x, v) -> x.then(0, 1, v), Refused.NOT_0_OR_1, "then for what");
        });
    }

    private static void soonest(Sentences s) {
        s.test("Term 3", "behind how many HOURS (0 .. 60) one first is AT it, or beyond, not being LOST", due -> {
            AnswerPass x = Passes.with(0, 0);
            Due.tells(x, 0, "h=11");
            due.is(0, x.soonest(0, 0), "behind 0");
            due.is(12, x.soonest(0, 1), "behind 12");
            due.is(60, x.soonest(0, 3), "behind 60");
            x.hour(23 + 24);
            due.is(60 - 23, x.soonest(0, 2), "sooner, later in the day");
            x.hour(23);
            due.is(13, x.soonest(0, 1), "behind HOUR 35");
            x = Passes.with(30, 0);
            due.is(1, x.soonest(0, 1), "beyond 1 behind an HOUR");
            due.is(1, x.soonest(0, 2), "AT 2 behind an HOUR");
            due.is(2, x.soonest(0, 3), "beyond 3 behind two");
            x.puts(0, 9);
            for (int cell = 0; cell <= 9; cell++) {
                due.is(0, x.soonest(0, cell), "AT " + cell + " or beyond now");
            }
            due.is(1, x.soonest(0, 10), "not AT 10 now");
        });
        s.test("Term 3", "not being LOST", due -> {
            AnswerPass x = Passes.with(30, 0);
            x.drop(5, 1);
            due.is(2, x.soonest(0, 4), "ahead of the DROP");
            due.is(Due.NONE, x.soonest(0, 5), "one is LOST at the DROP");
            due.is(Due.NONE, x.soonest(0, 6), "and goes no further");
            x.hours(3);
            for (int cell = 0; cell < 16; cell++) {
                due.is(Due.NONE, x.soonest(0, cell), "who is LOST comes nowhere, to " + cell);
            }
            x.drop(4, 1);
            x.puts(0, 2);
            due.is(Due.NONE, x.soonest(0, 4), "one would be LOST at 4");
            due.is(Due.NONE, x.soonest(0, 3), "3 is only passed on the way into the DROP");
        });
        s.test("Promise 18", "NONE: not by 60", due -> {
            AnswerPass x = Passes.with(0, 0);
            Due.tells(x, 0, "h=12");
            due.is(37, x.soonest(0, 2), "behind 37");
            due.is(Due.NONE, x.soonest(0, 3), "behind 61");
            Refused.is(due, Due.NONE, y -> y.soonest(1, 0), "who is LOST");
        });
        s.test("Promise 18", "BEYOND.", due -> {
            Refused.beyond(due, (x, v) -> x.soonest(v, 0), Refused.NOBODY, "soonest of nobody");
            Refused.beyond(due, (x, v) -> x.soonest(0, v), Refused.NO_CELL, "soonest for CELL");
        });
        s.test("Promise 18", "BEYOND. NONE:", due -> Refused.is(due, Due.BEYOND, x -> x.soonest(1, 16), "who is LOST, for no CELL"));
    }

    /** One who sets out in HOUR 19 alone, so that 20 HOURS are just enough for CELL 1. */
    private static AnswerPass lateRiser() {
        AnswerPass x = Passes.with(0, 50);
        Due.tells(x, 0, "h=19");
        return x;
    }

    private static void least(Sentences s) {
        s.test("Term 3", "One COMES there by n, if that is so behind 0 .. n HOURS", due -> {
            AnswerPass x = lateRiser();
            due.is(0, x.least(0, 0, 0), "behind 0 by 0");
            due.is(0, x.least(0, 0, 20), "behind 0 by 20");
            due.is(Due.NONE, x.least(0, 1, 0), "not by 0");
            due.is(Due.NONE, x.least(0, 1, 19), "not by 19");
            due.is(0, x.least(0, 1, 20), "behind 20 by 20");
            due.is(0, x.fills(0, 1, 20, 0), "behind 20 by 20, no DROP filled");
            due.is(Due.NONE, x.fills(0, 1, 19, 0), "not by 19, whatever is filled");
            due.is(1, x.odds(0, 1, 20, 0), "behind 20 by 20, with any SURE");
            due.is(0, x.odds(0, 1, 19, 0), "not by 19, with any SURE");
        });
        s.test("Term 3", "the least SURE (0 .. 99) with which one COMES there by n", due -> {
            String[] texts = {"s=0", "s=1", "s=98", "s=99", "s=100", "s>99", "s<0", "s>0", "s=5|s=7", "s<100"};
            long[] dues = {0, 1, 98, 99, Due.NONE, Due.NONE, Due.NONE, 1, 5, 0};
            for (int i = 0; i < texts.length; i++) {
                AnswerPass x = Passes.with(0, 50);
                Due.tells(x, 0, texts[i]);
                due.is(dues[i], x.least(0, 1, 1), "the least where it is CLEAR if " + texts[i]);
                due.is(50, x.personIs(0, 2), "SURE stays");
            }
        });
        s.test("Promise 19", "for n (0 .. 20)", due -> {
            AnswerPass x = Passes.with(0, 50);
            due.is(0, x.least(0, 0, 0), "by 0");
            due.is(10, x.least(0, 15, 15), "by 15, a CELL an HOUR");
            due.is(40, x.least(0, 15, 14), "by 14, two an HOUR");
            due.is(10, x.least(0, 15, 20), "by 20");
        });
        s.test("Promise 19", "BEYOND.", due -> {
            Refused.beyond(due, (x, v) -> x.least(v, 1, 1), Refused.NOBODY, "least of nobody");
            Refused.beyond(due, (x, v) -> x.least(0, v, 1), Refused.NO_CELL, "least for CELL");
            Refused.beyond(due, (x, v) -> x.least(0, 1, v), NOT_NEAR, "least for n");
        });
        s.test("Promise 19", "NONE: with none", due -> {
            Refused.is(due, Due.NONE, x -> x.least(0, 15, 0), "not AT 15 now");
            Refused.is(due, Due.NONE, x -> x.least(1, 0, 20), "who is LOST comes with no SURE");
        });
        s.test("Promise 19", "BEYOND. NONE:", due -> Refused.is(due, Due.BEYOND, x -> x.least(1, 0, 21), "who is LOST, for too many HOURS"));
    }

    private static void fills(Sentences s) {
        s.test("Term 3", "the fewest DROPS (2 at most) that are to be none so that one COMES there by n", due -> {
            int[] ways = {0, 1 << 1, 1 << 14, 1 << 1 | 1 << 2, 1 << 1 | 1 << 14, 1 << 13 | 1 << 14, 1 << 1 | 1 << 2 | 1 << 3, 0x7FFE};
            for (int drops : ways) {
                for (int km = 0; km < 40; km += 30) {
                    AnswerPass x = Passes.with(km, 90);
                    dig(x, drops);
                    int n = Integer.bitCount(drops);
                    due.is(n > 2 ? Due.NONE : n, x.fills(0, 15, 20, 0), "how many of " + drops);
                    due.is(n > 2 ? Due.NONE : drops, x.fills(0, 15, 20, 1), "which of " + drops);
                    due.is(drops, x.count(1), "DROPS stay");
                }
            }
            AnswerPass x = Passes.with(0, 90);
            dig(x, 1 << 3 | 1 << 5 | 1 << 6 | 1 << 9);
            int[] byCell = {0, 0, 0, 1 << 3, 1 << 3, 1 << 3 | 1 << 5};
            for (int cell = 0; cell < byCell.length; cell++) {
                due.is(byCell[cell], x.fills(0, cell, 20, 1), "the DROPS up to " + cell);
            }
            due.is(Due.NONE, x.fills(0, 6, 20, 1), "three up to 6");
            x.puts(0, 5);
            due.is(1 << 6, x.fills(0, 6, 20, 1), "one AT a DROP needs only those behind it");
        });
        s.test("Term 3", "of several sets the least (bits)", due -> {
            Random random = new Random(9);
            for (int run = 0; run < 60; run++) {
                int[] two = {random.nextInt(3) == 0 ? 40 : random.nextInt(70), random.nextInt(100), random.nextInt(6), random.nextInt(70), 50, random.nextInt(6)};
                int drops = random.nextInt(1 << 14) & random.nextInt(1 << 14) & ~1;
                int cell = 1 + random.nextInt(15);
                int set = leastSet(two, drops, cell);
                due.is(set < 0 ? Due.NONE : set, twoOn(two, drops).fills(0, cell, 20, 1), "run " + run + ", the least of all sets of " + drops);
                due.is(set < 0 ? Due.NONE : Integer.bitCount(set), twoOn(two, drops).fills(0, cell, 20, 0), "run " + run + ", how many");
            }
        });
        s.test("Promise 20", "for n (0 .. 20): what 0 how many, 1 the set", due -> {
            AnswerPass x = Passes.with(0, 10);
            x.drop(2, 1);
            due.is(0, x.fills(0, 0, 0, 0), "how many by 0");
            due.is(0, x.fills(0, 0, 0, 1), "which by 0");
            due.is(Due.NONE, x.fills(0, 15, 14, 0), "not by 14");
            due.is(1, x.fills(0, 15, 15, 0), "how many by 15");
            due.is(4, x.fills(0, 15, 20, 1), "which by 20");
        });
        s.test("Promise 20", "BEYOND.", due -> {
            Refused.beyond(due, (x, v) -> x.fills(v, 1, 1, 0), Refused.NOBODY, "fills of nobody");
            Refused.beyond(due, (x, v) -> x.fills(0, v, 1, 0), Refused.NO_CELL, "fills for CELL");
            Refused.beyond(due, (x, v) -> x.fills(0, 1, v, 0), NOT_NEAR, "fills for n");
            Refused.beyond(due, (x, v) -> x.fills(0, 1, 1, v), Refused.NOT_0_OR_1, "fills for what");
        });
        s.test("Promise 20", "NONE: not by 2", due -> {
            for (int what = 0; what < 2; what++) {
                int itsWhat = what;
                Refused.is(due, Due.NONE, x -> x.fills(1, 3, 20, itsWhat), "who is LOST, what " + what);
                Refused.is(due, Due.NONE, x -> x.fills(0, 15, 0, itsWhat), "not AT 15 now, what " + what);
            }
        });
        s.test("Promise 20", "BEYOND. NONE:", due -> Refused.is(due, Due.BEYOND, x -> x.fills(1, 3, 20, 2), "who is LOST, what 2"));
    }

    private static void dig(AnswerPass x, int drops) {
        for (int cell = 1; cell < 15; cell++) {
            x.drop(cell, drops >> cell & 1);
        }
    }

    /** Two PEOPLE by km, SURE and CELL. */
    private static AnswerPass twoOn(int[] two, int drops) {
        AnswerPass x = Passes.with(two[0], two[1], two[3], two[4]);
        x.puts(0, two[2]);
        x.puts(1, two[5]);
        dig(x, drops);
        return x;
    }

    /** By soonest() with every set of two DROPS at most being none, the smaller ones first; -1 if there is none. */
    private static int leastSet(int[] two, int drops, int cell) {
        for (int size = 0; size <= 2; size++) {
            for (int set = 0; set < 1 << 15; set++) {
                if (Integer.bitCount(set) == size && (set & drops) == set) {
                    int hours = twoOn(two, drops & ~set).soonest(0, cell);
                    if (hours >= 0 && hours <= 20) {
                        return set;
                    }
                }
            }
        }
        return -1;
    }

    private static void withWhom(Sentences s) {
        s.test("Term 3", "were one AT the CELL of another one (not LOST)", due -> {
            AnswerPass x = Passes.with(30, 0, 0, 0, 0, 0);
            x.drop(1, 1);
            x.hours(1);
            due.is(1, x.personIs(0, 4), "the LIAR is LOST");
            x.puts(1, 15);
            due.is(1, x.withWhom(0, 0), "none from 15, none from 0: the least");
            due.is(1, x.withWhom(0, 1), "none from 15, LOST from 0: the least");
            x.drop(1, 0);
            due.is(2, x.withWhom(0, 1), "from 0 one who is not LOST any more gets on");
            x.drop(1, 1);
            x.drop(2, 1);
            x.puts(2, 1);
            due.is(1, x.withWhom(0, 1), "from 1 one is LOST again");
            x.drop(2, 0);
            due.is(2, x.withWhom(0, 1), "from 1, a DROP, one gets on");
            due.is(1, x.personIs(0, 3), "one is AT 1 still");
            due.is(1, x.personIs(0, 4), "and LOST");
        });
        s.test("Term 3", "with which other one one gets farthest from there n HOURS on", due -> {
            AnswerPass x = Passes.with(0, 10, 0, 0, 0, 0);
            x.puts(1, 13);
            x.puts(2, 0);
            due.is(1, x.withWhom(0, 0), "none from either: the least");
            due.is(1, x.withWhom(0, 2), "two from either: the least");
            due.is(2, x.withWhom(0, 3), "two from 13, three from 0");
            due.is(2, x.withWhom(0, 20), "two from 13, fifteen from 0");
        });
        s.test("Term 3", "(as 0, if one is LOST then)", due -> {
            AnswerPass x = Passes.with(30, 0, 0, 0, 0, 0);
            x.puts(1, 15);
            x.puts(2, 0);
            x.drop(2, 1);
            due.is(1, x.withWhom(0, 1), "LOST from 0 is no more than none from 15");
            x.drop(2, 0);
            x.drop(3, 1);
            due.is(2, x.withWhom(0, 1), "two from 0 behind an HOUR");
            due.is(1, x.withWhom(0, 2), "LOST behind two");
            x.puts(1, 0);
            x.puts(2, 15);
            due.is(1, x.withWhom(0, 2), "LOST is no less than none from 15");
        });
        s.test("Term 3", "n HOURS on (as 0, if one is LOST then); of several the least", due -> {
            AnswerPass x = Passes.with(0, 50, 0, 50, 0, 50, 0, 50, 0, 50, 0, 50);
            for (int person = 0; person < 6; person++) {
                due.is(person == 0 ? 1 : 0, x.withWhom(person, 0), "all alike for " + person);
                due.is(person == 0 ? 1 : 0, x.withWhom(person, 20), "all alike in the end for " + person);
            }
            x.puts(0, 14);
            x.puts(1, 14);
            due.is(2, x.withWhom(5, 20), "2, 3 and 4 alike");
            due.is(3, x.withWhom(2, 20), "3, 4 and 5 alike");
        });
        s.test("Promise 21", "for n (0 .. 20)", due -> {
            AnswerPass x = Passes.with(0, 0, 0, 0, 0, 0);
            x.puts(1, 15);
            Due.tells(x, 0, "h=19");
            due.is(1, x.withWhom(0, 0), "for 0");
            due.is(1, x.withWhom(0, 19), "for 19");
            due.is(2, x.withWhom(0, 20), "for 20");
        });
        s.test("Promise 21", "BEYOND.", due -> {
            Refused.beyond(due, (x, v) -> x.withWhom(v, 1), Refused.NOBODY, "withWhom of nobody");
            Refused.beyond(due, (x, v) -> x.withWhom(0, v), NOT_NEAR, "withWhom for n");
        });
        s.test("Promise 21", "NONE: there is nobody else", due -> {
            Refused.is(due, Due.NONE, () -> Passes.with(0, 50), x -> x.withWhom(0, 0), "alone, for 0");
            Refused.is(due, Due.NONE, () -> Passes.with(0, 50), x -> x.withWhom(0, 20), "alone, for 20");
            AnswerPass x = Passes.with(0, 50, 30, 0);
            x.drop(1, 1);
            x.hours(1);
            due.is(1, x.withWhom(0, 0), "who is LOST is somebody else");
        });
        s.test("Promise 21", "BEYOND. NONE:", due -> Refused.is(due, Due.BEYOND, () -> Passes.with(0, 50), x -> x.withWhom(0, 21), "alone, for 21"));
    }

    private static void odds(Sentences s) {
        s.test("Term 3", "SURE being 0 .. 99, each as likely: a fraction in lowest terms (0 is 0 by 1)", due -> {
            for (int come = 0; come <= 100; come++) {
                AnswerPass x = Passes.with(0, 50);
                Due.tells(x, 0, "s<" + come);
                int common = 1;
                for (int by = 1; by <= 100; by++) {
                    common = come % by == 0 && 100 % by == 0 ? by : common;
                }
                due.is(come == 0 ? 0 : come / common, x.odds(0, 1, 1, 0), "above the line, of " + come);
                due.is(come == 0 ? 1 : 100 / common, x.odds(0, 1, 1, 1), "below the line, of " + come);
            }
            AnswerPass x = Passes.with(0, 50);
            Due.tells(x, 0, "s=0");
            due.is(100, x.odds(0, 1, 1, 1), "SURE 0 is one of 100");
            Due.tells(x, 0, "s=99");
            due.is(1, x.odds(0, 1, 1, 0), "SURE 99, too");
            Due.tells(x, 0, "s=100");
            due.is(0, x.odds(0, 1, 1, 0), "SURE 100 is none");
            due.is(50, x.personIs(0, 2), "SURE stays");
        });
        s.test("Promise 22", "for n (0 .. 20): part 0 above, 1 below the line", due -> {
            AnswerPass x = Passes.with(0, 50);
            due.is(1, x.odds(0, 0, 0, 0), "all by 0: above");
            due.is(1, x.odds(0, 0, 0, 1), "all by 0: below");
            due.is(0, x.odds(0, 1, 0, 0), "none by 0: above");
            due.is(1, x.odds(0, 1, 0, 1), "none by 0: below");
            due.is(9, x.odds(0, 15, 20, 0), "90 of 100 by 20: above");
            due.is(10, x.odds(0, 15, 20, 1), "90 of 100 by 20: below");
            AnswerPass y = Passes.rich();
            due.is(0, y.odds(1, 0, 20, 0), "who is LOST never comes: above");
            due.is(1, y.odds(1, 0, 20, 1), "who is LOST never comes: below");
        });
        s.test("Promise 22", "BEYOND.", due -> {
            Refused.beyond(due, (x, v) -> x.odds(v, 1, 1, 0), Refused.NOBODY, "odds of nobody");
            Refused.beyond(due, (x, v) -> x.odds(0, v, 1, 0), Refused.NO_CELL, "odds for CELL");
            Refused.beyond(due, (x, v) -> x.odds(0, 1, v, 0), NOT_NEAR, "odds for n");
            Refused.beyond(due, (x, v) -> x.odds(0, 1, 1, v), Refused.NOT_0_OR_1, "odds part");
        });
    }

    private static void fits(Sentences s) {
        s.test("Term 3", "a SHEET tells how CLEAR it is for one behind 0, 1, .. HOURS", due -> {
            AnswerPass x = Passes.with(60, 0);
            due.is(1, x.sheet(0, 8, 0), "no numbers");
            due.is(100, x.fits(0, 0, 0), "any SURE fits no numbers");
            due.is(0, x.fits(0, 0, 1), "the least of any");
            Passes.lays(x, 0, 8, 3);
            due.is(10, x.fits(0, 0, 0), "one number: behind 0 HOURS");
            int[] row = new int[24];
            for (int i = 0; i < 24; i++) {
                row[i] = 9 + i % 5;
            }
            Passes.lays(x, 0, 32, row);
            due.is(10, x.fits(0, 0, 0), "24 numbers: behind 0 to 23 HOURS");
            due.is(90, x.fits(0, 0, 1), "the least of them");
            x.put(0, 23, 9);
            due.is(0, x.fits(0, 0, 0), "the last of 24 is wrong");
            x.put(0, 23, 12);
            x.put(0, 0, 8);
            due.is(0, x.fits(0, 0, 0), "the first of 24 is wrong");
            Passes.lays(x, 0, 8, 21);
            Due.tells(x, 0, "99");
            due.is(0, x.fits(0, 0, 0), "it is CLEAR for 20 at most");
            Passes.lays(x, 0, 8, 20);
            due.is(100, x.fits(0, 0, 0), "and for 20");
        });
        s.test("Term 3", "with how many SURES (0 .. 99, now) that is so; the least", due -> {
            String[] texts = {"s=0", "s=99", "s=100", "s<0", "s>0", "s<99", "s<100"};
            int[][] howManyAndLeast = {{1, 0}, {1, 99}, {0, (int) Due.NONE}, {0, (int) Due.NONE}, {99, 1}, {99, 0}, {100, 0}};
            for (int i = 0; i < texts.length; i++) {
                AnswerPass x = Passes.with(0, 50);
                Due.tells(x, 0, texts[i]);
                Passes.lays(x, 0, 8, 1);
                due.is(howManyAndLeast[i][0], x.fits(0, 0, 0), "how many where it is CLEAR if " + texts[i]);
                due.is(howManyAndLeast[i][1], x.fits(0, 0, 1), "the least where it is CLEAR if " + texts[i]);
                due.is(50, x.personIs(0, 2), "SURE stays");
            }
            // HONEYMOON and one who goes a CELL an HOUR: SURE now is SURE behind an HOUR, and tells whether one keeps up.
            AnswerPass x = Passes.with(40, 0, 0, 30);
            Passes.lays(x, 0, 8, 1, 1, 1);
            due.is(20, x.fits(0, 0, 0), "by SURES 0 to 19");
            Passes.lays(x, 0, 8, 4, 3);
            due.is(20, x.fits(0, 0, 0), "by SURES 60 to 79, who go two CELLS");
            due.is(60, x.fits(0, 0, 1), "the least of them");
        });
        s.test("Promise 23", "BEYOND.", due -> {
            Refused.beyond(due, (x, v) -> x.fits(v, 0, 0), Refused.NO_SHEET, "fits by SHEET");
            Refused.beyond(due, (x, v) -> x.fits(0, v, 0), Refused.NOBODY, "fits of nobody");
            Refused.beyond(due, (x, v) -> x.fits(0, 0, v), Refused.NOT_0_OR_1, "fits for what");
        });
        s.test("Promise 23", "NONE: the SHEET is missing; (what 1) there is none", due -> {
            Refused.is(due, Due.NONE, x -> x.fits(3, 0, 0), "a missing SHEET, what 0");
            Refused.is(due, Due.NONE, x -> x.fits(3, 0, 1), "a missing SHEET, what 1");
            Refused.is(due, Due.NONE, x -> x.fits(1, 0, 1), "no least");
            AnswerPass x = Passes.rich();
            int told = x.told(2);
            due.is(0, x.fits(1, 0, 0), "but how many there are: none");
            due.is(told, x.told(2), "which is no ERROR");
        });
        s.test("Promise 23", "BEYOND. NONE:", due -> {
            Refused.is(due, Due.BEYOND, x -> x.fits(3, 3, 0), "nobody by a missing SHEET");
            Refused.is(due, Due.BEYOND, x -> x.fits(3, 0, 2), "what 2 by a missing SHEET");
        });
    }
}
