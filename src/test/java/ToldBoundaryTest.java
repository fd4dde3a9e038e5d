import java.io.IOException;

/** Promises 31 to 36 at their boundaries. */
public final class ToldBoundaryTest {
    private static final int LEAST = Integer.MIN_VALUE;
    private static final int MOST = Integer.MAX_VALUE;

    private ToldBoundaryTest() {
    }

    public static void main(String[] args) throws IOException {
        Sentences s = new Sentences("ToldBoundaryTest");
        image(s);
        restore(s);
        tell(s);
        check(s);
        count(s);
        told(s);
        s.close();
    }

    private static void image(Sentences s) {
        s.test("Promise 31", "is kept as an IMAGE, in place of one ahead: how often that was done", due -> {
            AnswerPass x = new AnswerPass();
            due.is(1, x.image(), "an IMAGE of nothing");
            x.person(0, 1);
            due.is(2, x.image(), "in place of one ahead");
            x.person(0, 2);
            due.is(0, x.restore(), "HOUR");
            due.is(1, x.count(0), "PEOPLE as in the latest IMAGE");
            due.is(3, x.image(), "how often is not as in the IMAGE");
            due.is(4, x.image(), "nor where nothing changed");
        });
        s.test("Promise 31", "All (but SHEETS, THE TRACE, what told() tells, and how often this was done)", due -> {
            AnswerPass x = Passes.rich();
            x.image();
            Passes.lays(x, 0, 16, 9);
            x.sheet(1, 0, 0);
            Passes.lays(x, 3, 8, 8, 8);
            x.voice(0, 0, 1);
            x.count(9);
            x.restore();
            due.is(Due.NONE, x.judge(1), "a SHEET that is missing stays so");
            due.is(0, x.judge(0), "a SHEET that is there stays so");
            due.is(Due.BEYOND, x.put(0, 1, 0), "with its numbers");
            due.is(2, x.move(3, 0, 3, 0, 2), "another one, too");
            due.is(1, x.count(6), "THE TRACE stays");
            due.is(10, x.body(0), "with its BODIES");
            due.is(3, x.told(1), "what told() tells stays");
        });
    }

    private static void restore(Sentences s) {
        s.test("Promise 32", "All is as the IMAGE has it, which stays: HOUR", due -> {
            AnswerPass x = Passes.rich();
            x.image();
            AnswerPass y = Passes.rich();
            y.image();
            for (int twice = 0; twice < 2; twice++) {
                y.become(0, 69);
                y.puts(1, 15);
                y.answers(2, 0);
                y.person(0, 0);
                y.drop(1, 1);
                y.drop(9, 0);
                y.loose(3);
                y.text(0);
                y.untell(1);
                y.check();
                y.tell(1);
                due.is(77, y.restore(), "HOUR of the IMAGE");
            }
            due.is(77, y.restore(), "and once more");
            due.holds(Seen.of(x).equals(Seen.of(y)), "all is as the IMAGE has it");
        });
        s.test("Promise 32", "All is as the IMAGE has it", due -> {
            AnswerPass x = new AnswerPass();
            x.image();
            x.person(0, 0);
            x.drop(1, 1);
            x.hour(9999);
            Due.tells(x, 0, "7");
            Due.tells(x, 1, "3");
            x.feed(0, 8);
            x.tell(5);
            due.is(0, x.restore(), "HOUR of an IMAGE of nothing");
            for (int what = 0; what < 8; what++) {
                due.is(what == 7 ? 1 : 0, x.count(what), "count(" + what + ") of an IMAGE of nothing");
            }
            due.is(0, x.untell(0) + x.untell(1), "no TEXTS");
            due.is(Due.BEYOND, x.personIs(0, 0), "nobody");
            x.hour(9999);
            x.image();
            x.hour(0);
            due.is(9999, x.restore(), "the last HOUR");
        });
        s.test("Promise 32", "All is as the IMAGE has it, which stays", due -> {
            AnswerPass x = new AnswerPass();
            Due.feeds(x, "c+c");
            x.tell(7);
            x.image();
            for (int twice = 0; twice < 2; twice++) {
                due.is(1, x.text(0), "THE TAPE of the IMAGE");
                due.is(8, x.law(0, 4, 0, 0), "is c+c");
                Due.feeds(x, "9-9-9-9");
                due.is(2, x.tell(8), "one more waits");
                due.is(1, x.check(), "nobody for the first");
                x.restore();
                due.is(0, x.untell(0), "no TEXT");
                due.is(3, x.count(4), "three bytes");
                due.is(1, x.count(5), "one number waits");
            }
            x.person(0, 7);
            due.is(0, x.check(), "which is 7");
        });
        s.test("Promise 32", "NONE: there is none", due -> {
            Refused.is(due, Due.NONE, AnswerPass::new, AnswerPass::restore, "restore of a new object");
            Refused.is(due, Due.NONE, () -> {
                AnswerPass x = Passes.with(0, 50, 30, 60);
                x.drop(4, 1);
                x.hours(3);
                return x;
            }, AnswerPass::restore, "restore without an IMAGE");
        });
    }

    private static AnswerPass waiting(int n) {
        AnswerPass x = Passes.with(0, 50, 0, 51);
        for (int i = 0; i < n; i++) {
            x.tell(50 + i);
        }
        return x;
    }

    private static void tell(Sentences s) {
        s.test("Promise 33", "One more number waits: how many", due -> {
            AnswerPass x = new AnswerPass();
            for (int i = 1; i <= 24; i++) {
                due.is(i, x.tell(i % 3 == 0 ? LEAST : i % 3 == 1 ? MOST : 0), "any number");
            }
            x.check();
            due.is(1, x.tell(5), "the first again, behind check()");
        });
        s.test("Promise 33", "FULL: 24 wait", due -> {
            due.is(24, waiting(23).tell(0), "23 wait");
            Refused.is(due, Due.FULL, () -> waiting(24), x -> x.tell(50), "24 wait");
            AnswerPass x = waiting(24);
            x.tell(0);
            due.is(3, x.check(), "nobody for the third");
            due.is(1, x.tell(0), "none waits behind check()");
        });
    }

    private static void check(Sentences s) {
        s.test("Promise 34", "The numbers that wait (none do then)", due -> {
            for (int n : new int[] {0, 1, 2, 3, 24}) {
                AnswerPass x = waiting(n);
                due.is(n <= 2 ? 0 : 3, x.check(), "so many wait: " + n);
                due.is(0, x.count(5), "none does then");
                due.is(0, x.check(), "none waits, so that none is wrong");
                due.is(50, x.personIs(0, 2), "SURE stays");
            }
        });
        s.test("Promise 34", "else 1 and the place (from 0) of the first that isn't so (or for which there is nobody)", due -> {
            for (int wrong = 0; wrong < 6; wrong++) {
                AnswerPass x = Passes.with(0, 0, 0, 1, 0, 2, 0, 3, 0, 4, 0, 99);
                for (int i = 0; i < 6; i++) {
                    x.tell(i >= wrong ? i + 1 : i);
                }
                due.is(1 + wrong, x.check(), "the first that isn't so: " + wrong);
                for (int i = 0; i < 5; i++) {
                    x.tell(i);
                }
                x.tell(99);
                due.is(0, x.check(), "all six are so");
            }
            AnswerPass x = new AnswerPass();
            x.tell(0);
            due.is(1, x.check(), "nobody for the first");
            x.person(0, 0);
            x.tell(0);
            x.tell(0);
            due.is(2, x.check(), "nobody for the second");
            for (int v : new int[] {LEAST, MOST, -1, 256, 100}) {
                x.tell(v);
                due.is(1, x.check(), v + " is no SURE of one");
            }
            due.is(0, x.told(1) + x.told(2), "no ERROR");
            AnswerPass lost = Passes.rich();
            lost.check();
            lost.tell(40);
            lost.tell(50);
            lost.tell(62);
            due.is(3, lost.check(), "SURE of one who is LOST is so");
        });
    }

    private static void count(Sentences s) {
        s.test("Promise 35", "0 PEOPLE, 1 DROPS, as a set, 2 HOUR, 3 who is THROUGH, as a set, 4 bytes of THE TAPE, 5 numbers that wait, "
            + "6 BODIES in THE TRACE, 7 z (any number)", due -> {
                AnswerPass x = Passes.with(0, 0, 9, 9, 19, 19, 29, 29, 39, 39, 49, 49);
                for (int i = 0; i < 6; i++) {
                    x.puts(i, 15);
                }
                for (int cell = 1; cell < 15; cell++) {
                    x.drop(cell, 1);
                }
                x.hour(9999);
                Due.feeds(x, "c+".repeat(30));
                for (int i = 0; i < 24; i++) {
                    x.tell(i);
                }
                x.voice(5, 2, 1);
                x.seed(LEAST);
                int[] full = {6, 0x7FFE, 9999, 63, 60, 24, 6, LEAST};
                for (int what = 0; what < 8; what++) {
                    due.is(full[what], x.count(what), "count(" + what + ") where all is full");
                }
                x.seed(-1000000001);
                due.is(-1000000001, x.count(7), "z that looks like an ERROR");
                due.is(0, x.told(1), "is none");
            });
        s.test("Promise 35", "BEYOND.", due -> Refused.beyond(due, (x, v) -> x.count(v), Refused.outside(0, 7), "count of what"));
    }

    private static void told(Sentences s) {
        s.test("Promise 36", "How many acts have answered an ERROR LOW - k (k 1 .. 6)", due -> {
            AnswerPass x = Passes.with(0, 0);
            for (int k = 1; k <= 6; k++) {
                due.is(0, x.told(k), "none at first");
            }
            for (int i = 0; i < 24; i++) {
                x.tell(0);
            }
            for (int times = 1; times <= 3; times++) {
                x.count(8);
                x.body(0);
                x.sheet(0, 8, -1);
                x.tell(0);
                x.as(0, 1);
                x.voice(0, 3, 1);
                x.body(5);
                for (int k = 1; k <= 6; k++) {
                    due.is(k == 2 ? 1 + times : times, x.told(k), "told(" + k + ") behind " + times);
                }
            }
        });
        s.test("Promise 36", "BEYOND: another k (counted, too)", due -> {
            Refused.beyond(due, (x, v) -> x.told(v), Refused.outside(1, 6), "told");
            AnswerPass x = new AnswerPass();
            due.is(Due.BEYOND, x.told(0), "told(0)");
            due.is(1, x.told(1), "is counted");
            due.is(Due.BEYOND, x.told(7), "told(7)");
            due.is(2, x.told(1), "is counted, too");
            due.is(2, x.told(1), "what is no ERROR is not");
        });
    }
}
