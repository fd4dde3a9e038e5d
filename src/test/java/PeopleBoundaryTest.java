import java.io.IOException;

/** ERRORS, Term 1 as far as it tells of PEOPLE and CELLS, and promises 1 to 8, at their boundaries. */
public final class PeopleBoundaryTest {
    private static final int LEAST = Integer.MIN_VALUE;
    private static final int MOST = Integer.MAX_VALUE;
    private static final int[] NO_KM = Refused.outside(0, 69);
    private static final int[] NO_SURE = Refused.outside(0, 99);

    private PeopleBoundaryTest() {
    }

    public static void main(String[] args) throws IOException {
        Sentences s = new Sentences("PeopleBoundaryTest");
        errors(s);
        cellsAndKinds(s);
        sees(s);
        falls(s);
        aNewObject(s);
        person(s);
        personIs(s);
        become(s);
        as(s);
        answers(s);
        puts(s);
        drop(s);
        s.close();
    }

    private static void errors(Sentences s) {
        s.test("What it is", "An object is used for at most 512 calls after it has been made", due -> {
            AnswerPass x = Passes.with(0, 10);
            for (int call = 2; call <= 511; call++) {
                due.is(Due.NONE, x.body(0), "call " + call);
            }
            due.is(510, x.told(2), "call 512 of an object");
        });
        s.test("ERRORS", "ERRORS are answers below -1000000000: LOW is -1000000000; LOW - 1 BEYOND, LOW - 2 NONE, LOW - 3 STATE, LOW - 4 FULL, "
            + "LOW - 5 KIND, LOW - 6 PARTED", due -> {
                AnswerPass x = Passes.with(0, 0);
                due.is(-1000000001, x.count(8), "BEYOND");
                due.is(-1000000002, x.body(0), "NONE");
                due.is(-1000000003, x.sheet(0, 8, -1), "STATE");
                for (int i = 0; i < 24; i++) {
                    x.tell(0);
                }
                due.is(-1000000004, x.tell(0), "FULL");
                due.is(-1000000005, x.as(0, 1), "KIND");
                due.is(-1000000006, x.voice(0, 3, 0), "PARTED");
                for (int k = 1; k <= 6; k++) {
                    due.is(1, x.told(k), "told(" + k + ")");
                }
            });
        s.test("ERRORS", "ERRORS are answers below -1000000000", due -> {
            AnswerPass x = Passes.with(0, 0);
            for (int k = 0; k <= 7; k++) {
                int alike = -1000000000 - k;
                x.seed(alike);
                due.is(alike, x.count(7), "z that looks like an ERROR");
                due.is(alike, x.voice(0, 0, alike), "a VOICE that looks like an ERROR");
                due.is(alike, x.seed(alike), "seed tells what looks like an ERROR");
            }
            for (int k = 1; k <= 6; k++) {
                due.is(0, x.told(k), "any number that looks like an ERROR is none");
            }
        });
        s.test("ERRORS", "Quotients are cut toward 0", due -> {
            AnswerPass x = Passes.with(0, 0, 0, 0, 39, 0);
            due.is(7, x.voice(1, 3, -7), "-7 by -1");
            due.is(0, x.voice(2, 3, -6), "-6 by 7");
            due.is(-1, x.voice(2, 3, -13), "-13 by 7");
            due.is((0 + 2) * 2 - 9, x.voice(2, 2, -1), "a LIAR walks by half of -1");
            due.is((-1 + 2) * 2 - 9, x.voice(2, 2, -3), "a LIAR walks by half of -3");
            Due.tells(x, 0, "(0-7)/2+9");
            due.is(6, x.law(0, 0, 0, 0), "-7 by 2 in a TEXT");
        });
    }

    private static void cellsAndKinds(Sentences s) {
        s.test("Term 1", "THE PASS has CELLS 0 .. 15; of 1 .. 14 each may be a DROP (none is, at first)", due -> {
            AnswerPass x = Passes.with(0, 0);
            due.is(0, x.count(1), "no DROPS at first");
            for (int cell = 0; cell <= 15; cell++) {
                due.is(Math.max(0, cell - 1), x.puts(0, cell), "CELL " + cell);
                boolean may = cell > 0 && cell < 15;
                due.is(may ? 0 : Due.BEYOND, x.drop(cell, 1), "a DROP at " + cell);
            }
            due.is(0x7FFE, x.count(1), "DROPS at 1 to 14");
        });
        s.test("Term 1", "HOUR (0 .. 9999; 0 at first)", due -> {
            AnswerPass x = new AnswerPass();
            due.is(0, x.count(2), "HOUR at first");
            due.is(0, x.hour(9999), "HOUR 9999");
            due.is(9999, x.hour(0), "HOUR 0");
        });
        s.test("Term 1", "(at most 6), of KINDS", due -> {
            AnswerPass x = new AnswerPass();
            for (int i = 0; i < 6; i++) {
                due.is(i, x.person(10 * i, 0), "one more");
            }
            due.is(Due.FULL, x.person(60, 0), "a seventh");
        });
        s.test("Term 1", "each with a number m (0 .. 9), SURE (0 .. 99), AT a CELL (0 at first), LOST (1) or not (0, at first)", due -> {
            AnswerPass x = Passes.with(60, 0, 69, 99);
            int[][] fields = {{6, 0, 0, 0, 0}, {6, 9, 99, 0, 0}};
            for (int i = 0; i < 10; i++) {
                due.is(fields[i / 5][i % 5], x.personIs(i / 5, i % 5), "personIs(" + i / 5 + ", " + i % 5 + ")");
            }
        });
        s.test("Term 1", "Who is AT 15 is THROUGH", due -> {
            AnswerPass x = Passes.with(0, 0, 0, 0, 0, 0, 0, 0, 0, 0, 0, 0);
            due.is(0, x.count(3), "nobody at first");
            x.puts(5, 14);
            due.is(0, x.count(3), "not AT 14");
            x.puts(5, 15);
            due.is(32, x.count(3), "AT 15");
            for (int i = 0; i < 5; i++) {
                x.puts(i, 15);
            }
            due.is(63, x.count(3), "all six");
        });
        s.test("Term 1", "TOGETHER with one are all others who are AT one's CELL and not LOST", due -> {
            AnswerPass x = Passes.with(40, 0);
            due.is(0, x.personIs(0, 5), "nobody is TOGETHER with oneself");
            for (int i = 1; i < 6; i++) {
                x.person(30, 0);
                due.is(i, x.personIs(0, 5), "others AT 0: " + i);
            }
            x.puts(5, 1);
            due.is(4, x.personIs(0, 5), "one is AT 1");
            x.drop(2, 1);
            x.answers(0, 0);
            x.hours(1);
            due.is(2, x.personIs(5, 3), "a LIAR fell into 2");
            x.puts(0, 2);
            due.is(0, x.personIs(0, 5), "all AT 2 are LOST");
            x.become(5, 40);
            due.is(1, x.personIs(5, 5), "who is LOST oneself is TOGETHER with one who isn't");
            x.puts(4, 2);
            due.is(1, x.personIs(0, 5), "one AT 2 is not LOST any more");
            x.puts(0, 15);
            x.puts(4, 15);
            due.is(1, x.personIs(0, 5), "who is THROUGH is TOGETHER with one AT 15");
        });
    }

    /** CLEAR of one of a km with a SURE in an HOUR; a TEXT of CLEAR may show what is held elsewhere. */
    private static int clear(int km, int sure, int hour, String text) {
        AnswerPass x = Passes.with(km, sure);
        x.hour(hour);
        if (!text.isEmpty()) {
            Due.tells(x, 0, text);
        }
        return x.personIs(0, 5);
    }

    private static void seesAs(Due due, int[][] kmSureHourSees) {
        for (int[] c : kmSureHourSees) {
            String what = "what " + c[0] + " sees with SURE " + c[1] + " in HOUR " + c[2];
            due.is(c[3], clear(c[0], c[1], c[2], ""), what);
            due.is(c[3] + 1, clear(c[0], c[1], c[2], "c+1"), what + ", and 1");
        }
    }

    private static void sees(Sentences s) {
        s.test("Term 1", "MAN: SURE by 10 (cut)", due -> seesAs(due, new int[][] {
            {0, 0, 0, 0}, {0, 9, 0, 0}, {9, 10, 23, 1}, {0, 19, 0, 1}, {0, 89, 0, 8}, {0, 90, 0, 9}, {9, 99, 9999, 9},
        }));
        s.test("Term 1", "DRUMMER: half of MAN's (cut)", due -> seesAs(due, new int[][] {
            {10, 0, 0, 0}, {10, 19, 0, 0}, {19, 20, 0, 1}, {10, 39, 0, 1}, {10, 40, 0, 2}, {19, 99, 9999, 4},
        }));
        s.test("Term 1", "DEPENDS: as MAN, less 3 (0 at least)", due -> {
            seesAs(due, new int[][] {{20, 0, 0, 0}, {29, 29, 0, 0}, {20, 30, 0, 0}, {20, 39, 0, 0}, {20, 40, 0, 1}, {29, 99, 0, 6}});
            due.is(3, clear(20, 0, 0, "c+3"), "0 at least ahead of the TEXT, too");
        });
        s.test("Term 1", "LIAR: 9 and m", due -> seesAs(due, new int[][] {{30, 0, 0, 9}, {30, 99, 9999, 9}, {31, 0, 0, 10}, {39, 50, 0, 18}}));
        s.test("Term 1", "HONEYMOON: as DRUMMER, and how many are TOGETHER with one", due -> {
            seesAs(due, new int[][] {{40, 0, 0, 0}, {49, 19, 0, 0}, {40, 20, 0, 1}, {49, 99, 0, 4}});
            AnswerPass x = Passes.with(49, 99, 0, 0, 0, 0, 0, 0, 0, 0, 0, 0);
            due.is(9, x.personIs(0, 5), "with five TOGETHER");
        });
        s.test("Term 1", "PILGRIM: 1, and the rest of m by 2", due -> seesAs(due, new int[][] {
            {50, 0, 0, 1}, {50, 99, 0, 1}, {51, 0, 0, 2}, {58, 99, 0, 1}, {59, 0, 9999, 2},
        }));
        s.test("Term 1", "OLD: as MAN, and the rest of HOUR by 5", due -> seesAs(due, new int[][] {
            {60, 0, 0, 0}, {60, 0, 4, 4}, {69, 0, 5, 0}, {60, 9, 9999, 4}, {60, 99, 9, 13}, {60, 99, 9995, 9},
        }));
    }

    private static void fallsAs(Due due, int[][] kmSureHourFalls) {
        for (int[] c : kmSureHourFalls) {
            AnswerPass x = Passes.with(c[0], c[1]);
            x.hour(c[2]);
            due.is(c[3], x.personIs(0, 7), "whether " + c[0] + " falls with SURE " + c[1] + " in HOUR " + c[2]);
        }
    }

    private static void falls(Sentences s) {
        s.test("Term 1", "MAN, DRUMMER, HONEYMOON, PILGRIM: never", due -> fallsAs(due, new int[][] {
            {9, 0, 23, 0}, {19, 0, 23, 0}, {49, 0, 23, 0}, {59, 0, 23, 0}, {0, 99, 0, 0}, {10, 99, 0, 0}, {40, 99, 0, 0}, {50, 99, 0, 0},
        }));
        s.test("Term 1", "DEPENDS: if SURE is below 10 and m", due -> fallsAs(due, new int[][] {
            {20, 0, 0, 1}, {20, 9, 0, 1}, {20, 10, 0, 0}, {20, 99, 23, 0}, {29, 0, 0, 1}, {29, 18, 0, 1}, {29, 19, 0, 0}, {29, 99, 0, 0},
        }));
        s.test("Term 1", "LIAR: always", due -> fallsAs(due, new int[][] {{30, 0, 0, 1}, {30, 99, 0, 1}, {39, 99, 9999, 1}, {39, 0, 23, 1}}));
        s.test("Term 1", "OLD: if the rest of HOUR by 24 is above 20 less m", due -> fallsAs(due, new int[][] {
            {60, 0, 20, 0}, {60, 0, 21, 1}, {60, 0, 23, 1}, {60, 0, 24, 0}, {60, 0, 44, 0}, {60, 0, 45, 1}, {69, 99, 11, 0}, {69, 99, 12, 1},
            {69, 0, 24, 0}, {65, 0, 9999, 0}, {66, 0, 9999, 1}, {60, 0, 0, 0},
        }));
    }

    private static void aNewObject(Sentences s) {
        s.test("Promise 1", "All as at first; no PEOPLE, no DROPS, no TEXTS", due -> {
            AnswerPass x = new AnswerPass();
            for (int what = 0; what < 8; what++) {
                due.is(what == 7 ? 1 : 0, x.count(what), "count(" + what + ")");
            }
            for (int k = 1; k <= 6; k++) {
                due.is(0, x.told(k), "told(" + k + ")");
            }
            due.is(Due.BEYOND, x.personIs(0, 0), "nobody");
            due.is(Due.NONE, x.body(0), "no TRACE");
            due.is(Due.NONE, x.restore(), "no IMAGE");
            due.is(1, x.image(), "none was made");
            for (int sheet = 0; sheet < 4; sheet++) {
                due.is(Due.NONE, x.judge(sheet), "SHEET " + sheet + " is missing");
            }
            due.is(0, x.check(), "no numbers wait");
            due.is(0, x.hours(1), "nobody is THROUGH");
            due.is(0, x.untell(0), "no TEXT of CLEAR");
            due.is(0, x.untell(1), "no TEXT of PACE");
            due.is(-10, x.text(0), "THE TAPE is empty");
        });
        s.test("Promise 1", "All as at first", due -> {
            Passes.rich();
            due.is(0, new AnswerPass().count(0), "no other object's PEOPLE");
            due.is(1, new AnswerPass().count(7), "no other object's z");
            due.is(0, new AnswerPass().told(1), "no other object's ERRORS");
        });
    }

    private static void person(Sentences s) {
        s.test("Promise 2", "One of PEOPLE more (km: 10 times the KIND, and m): the number", due -> {
            AnswerPass x = new AnswerPass();
            int[] kms = {0, 9, 10, 59, 60, 69};
            for (int i = 0; i < kms.length; i++) {
                due.is(i, x.person(kms[i], i % 2 * 99), "the number of " + kms[i]);
                due.is(i + 1, x.count(0), "PEOPLE");
                due.is(kms[i] / 10, x.personIs(i, 0), "KIND of " + kms[i]);
                due.is(kms[i] % 10, x.personIs(i, 1), "m of " + kms[i]);
                due.is(i % 2 * 99, x.personIs(i, 2), "SURE of " + kms[i]);
            }
        });
        s.test("Promise 2", "One of PEOPLE more", due -> {
            AnswerPass x = Passes.with(0, 0);
            x.image();
            x.person(30, 0);
            x.drop(5, 1);
            x.hours(3);
            due.is(1, x.personIs(1, 4), "the second is LOST");
            x.restore();
            due.is(1, x.person(30, 0), "the second anew, behind an IMAGE of one");
            due.is(0, x.personIs(1, 3), "AT 0 at first");
            due.is(0, x.personIs(1, 4), "not LOST at first");
        });
        s.test("Promise 2", "BEYOND.", due -> {
            Refused.beyond(due, (x, v) -> x.person(v, 0), NO_KM, "person of km");
            Refused.beyond(due, (x, v) -> x.person(0, v), NO_SURE, "person of SURE");
        });
        s.test("Promise 2", "FULL.", due -> Refused.is(due, Due.FULL, PeopleBoundaryTest::six, x -> x.person(0, 0), "a seventh"));
        s.test("Promise 2", "BEYOND. FULL.", due -> {
            Refused.is(due, Due.BEYOND, PeopleBoundaryTest::six, x -> x.person(70, 0), "a seventh of no KIND");
            Refused.is(due, Due.BEYOND, PeopleBoundaryTest::six, x -> x.person(0, 100), "a seventh who is too SURE");
        });
    }

    private static AnswerPass six() {
        AnswerPass x = Passes.rich();
        x.person(69, 99);
        x.person(0, 0);
        x.person(20, 9);
        return x;
    }

    private static void personIs(Sentences s) {
        s.test("Promise 3", "4 LOST", due -> {
            AnswerPass x = Passes.rich();
            due.is(0, x.personIs(0, 4), "not LOST");
            due.is(1, x.personIs(1, 4), "LOST");
        });
        s.test("Promise 3", "5 CLEAR, 6 PACE", due -> {
            AnswerPass x = Passes.with(39, 0);
            due.is(18, x.personIs(0, 5), "CLEAR without a TEXT");
            due.is(2, x.personIs(0, 6), "PACE without a TEXT");
            Due.tells(x, 0, "c*2");
            Due.tells(x, 1, "c-17");
            due.is(20, x.personIs(0, 5), "CLEAR is held");
            due.is(3, x.personIs(0, 6), "PACE of CLEAR as it is held: 20, not 36");
            Due.tells(x, 0, "0-c");
            due.is(0, x.personIs(0, 5), "CLEAR is held at 0");
            due.is(0, x.personIs(0, 6), "PACE of 0, held");
            Due.tells(x, 1, "c+2");
            due.is(2, x.personIs(0, 6), "PACE of CLEAR as it is held: 0, not -18");
        });
        s.test("Promise 3", "7 whether one FALLS now (1, 0)", due -> {
            AnswerPass x = Passes.with(60, 0);
            x.hour(20);
            due.is(0, x.personIs(0, 7), "OLD in HOUR 20");
            x.hours(1);
            due.is(1, x.personIs(0, 7), "OLD in HOUR 21");
            x.hours(3);
            due.is(0, x.personIs(0, 7), "OLD in HOUR 24");
        });
        s.test("Promise 3", "BEYOND.", due -> {
            for (int what = 0; what < 8; what++) {
                int itsWhat = what;
                Refused.beyond(due, (x, v) -> x.personIs(v, itsWhat), Refused.NOBODY, "personIs " + what + " of nobody");
            }
            Refused.beyond(due, (x, v) -> x.personIs(0, v), Refused.outside(0, 7), "personIs for what");
        });
    }

    private static void become(Sentences s) {
        s.test("Promise 4", "One becomes one of a KIND, with m (km): the KIND that one was", due -> {
            AnswerPass x = Passes.rich();
            due.is(3, x.become(1, 0), "a LIAR becomes a MAN");
            due.is(0, x.become(1, 69), "a MAN becomes OLD");
            due.is(6, x.become(1, 69), "OLD becomes OLD");
            int[] fields = {6, 9, 50, 2, 1};
            for (int what = 0; what < fields.length; what++) {
                due.is(fields[what], x.personIs(1, what), "personIs " + what + " of one who became");
            }
        });
        s.test("Promise 4", "BEYOND.", due -> {
            Refused.beyond(due, (x, v) -> x.become(v, 0), Refused.NOBODY, "become of nobody");
            Refused.beyond(due, (x, v) -> x.become(0, v), NO_KM, "become to km");
        });
    }

    private static void as(Sentences s) {
        s.test("Promise 5", "KIND: one isn't of that KIND, nor of one under it", due -> {
            String[] asKinds = {"0", "01", "02", "03", "014", "025", "06"};
            for (int kind = 0; kind < 7; kind++) {
                AnswerPass x = Passes.with(10 * kind + 9 - kind, 0);
                for (int above = 0; above < 7; above++) {
                    boolean is = asKinds[kind].indexOf('0' + above) >= 0;
                    due.is(is ? 9 - kind : Due.KIND, x.as(0, above), "KIND " + kind + " as " + above);
                }
            }
            Refused.is(due, Due.KIND, x -> x.as(0, 6), "MAN as OLD");
        });
        s.test("Promise 5", "BEYOND.", due -> {
            Refused.beyond(due, (x, v) -> x.as(v, 0), Refused.NOBODY, "as of nobody");
            Refused.beyond(due, (x, v) -> x.as(0, v), Refused.outside(0, 6), "as KIND");
        });
        s.test("Promise 5", "BEYOND. KIND:", due -> Refused.is(due, Due.BEYOND, x -> x.as(3, 6), "nobody as OLD"));
    }

    private static void answers(Sentences s) {
        s.test("Promise 6", "SURE of one becomes so: what it was", due -> {
            AnswerPass x = Passes.rich();
            due.is(61, x.answers(2, 0), "SURE 0");
            due.is(0, x.answers(2, 99), "SURE 99");
            due.is(99, x.personIs(2, 2), "what it is");
            due.is(40, x.personIs(0, 2), "another one's stays");
            due.is(50, x.answers(1, 1), "who is LOST answers, too");
            due.is(1, x.personIs(1, 4), "and is LOST");
        });
        s.test("Promise 6", "BEYOND.", due -> {
            Refused.beyond(due, (x, v) -> x.answers(v, 0), Refused.NOBODY, "answers of nobody");
            Refused.beyond(due, (x, v) -> x.answers(0, v), NO_SURE, "answers of SURE");
        });
    }

    private static void puts(Sentences s) {
        s.test("Promise 7", "One is AT a CELL (a DROP, too), and not LOST: AT which one was", due -> {
            AnswerPass x = Passes.rich();
            due.is(2, x.puts(1, 9), "who was LOST, to a DROP");
            due.is(9, x.personIs(1, 3), "AT the DROP");
            due.is(0, x.personIs(1, 4), "not LOST");
            due.is(9, x.puts(1, 0), "to 0");
            due.is(0, x.puts(1, 15), "to 15");
            due.is(2, x.count(3), "THROUGH");
            due.is(15, x.puts(1, 14), "back from 15");
            due.is(0, x.count(3), "not THROUGH any more");
        });
        s.test("Promise 7", "BEYOND.", due -> {
            Refused.beyond(due, (x, v) -> x.puts(v, 0), Refused.NOBODY, "puts of nobody");
            Refused.beyond(due, (x, v) -> x.puts(1, v), Refused.NO_CELL, "puts to CELL");
        });
    }

    private static void drop(Sentences s) {
        s.test("Promise 8", "A CELL (1 .. 14) is a DROP (1), or none (0): what it was", due -> {
            for (int cell = 1; cell <= 14; cell++) {
                AnswerPass x = new AnswerPass();
                int[][] isWas = {{0, 0}, {1, 0}, {1, 1}, {0, 1}, {0, 0}, {1, 0}};
                for (int[] i : isWas) {
                    due.is(i[1], x.drop(cell, i[0]), "drop(" + cell + ", " + i[0] + ")");
                    due.is(i[0] << cell, x.count(1), "DROPS");
                }
            }
        });
        s.test("Promise 8", "BEYOND.", due -> {
            for (int is = 0; is < 2; is++) {
                int itIs = is;
                Refused.beyond(due, (x, v) -> x.drop(v, itIs), new int[] {0, 15, -1, 16, 32 + 3, LEAST, MOST}, "drop of CELL");
            }
            Refused.beyond(due, (x, v) -> x.drop(9, v), Refused.NOT_0_OR_1, "drop that is");
        });
    }
}
