/** Each promise of the document by ordinary inputs, the edges it names, and wrong inputs; worked out by hand. */
public final class PromisesTest {
    private static final Due due = new Due("PromisesTest");

    private PromisesTest() {
    }

    public static void main(String[] args) {
        aNewObject();
        person();
        personIsItsFields();
        personIsClear();
        personIsPaceAndFalls();
        become();
        as();
        answers();
        puts();
        drop();
        feed();
        textsThatStand();
        textsThatFault();
        textsWorkedOut();
        untell();
        law();
        hours();
        hoursOneByOne();
        loose();
        hour();
        seed();
        then();
        soonest();
        least();
        fills();
        withWhom();
        odds();
        fits();
        voice();
        voiceParted();
        bodyOfParted();
        body();
        sheet();
        put();
        move();
        sures();
        judge();
        image();
        restore();
        tell();
        check();
        count();
        told();
        due.close();
    }

    private static void aNewObject() {
        AnswerPass x = new AnswerPass();
        for (int what = 0; what <= 6; what++) {
            due.is(0, x.count(what), "count(" + what + ") of a new object");
        }
        due.is(1, x.count(7), "z of a new object");
        for (int k = 1; k <= 6; k++) {
            due.is(0, x.told(k), "told(" + k + ") of a new object");
        }
        due.is(9, x.law(0, 9, 0, 0), "CLEAR without a TEXT");
        due.is(Due.NONE, x.restore(), "restore() without an IMAGE");
        due.is(Due.NONE, x.judge(0), "a SHEET is missing at first");
        due.is(Due.BEYOND, x.personIs(0, 0), "nobody at first");
    }

    private static void person() {
        AnswerPass x = new AnswerPass();
        due.is(Due.BEYOND, x.person(-1, 5), "person(-1, 5)");
        due.is(Due.BEYOND, x.person(70, 5), "person(70, 5)");
        due.is(Due.BEYOND, x.person(0, -1), "person(0, -1)");
        due.is(Due.BEYOND, x.person(0, 100), "person(0, 100)");
        due.is(0, x.person(0, 0), "the first");
        due.is(1, x.person(69, 99), "the second");
        for (int i = 2; i < 6; i++) {
            due.is(i, x.person(10 * i, 50), "one more");
        }
        due.is(Due.FULL, x.person(0, 0), "a seventh");
        due.is(Due.BEYOND, x.person(0, 100), "BEYOND is asked ahead of FULL");
        due.is(6, x.count(0), "six");
        due.is(6, x.personIs(1, 0), "KIND of 69");
        due.is(9, x.personIs(1, 1), "m of 69");
        due.is(99, x.personIs(1, 2), "SURE");
    }

    private static void personIsItsFields() {
        AnswerPass x = Passes.with(34, 77);
        long[] fields = {3, 4, 77, 0, 0};
        for (int what = 0; what < fields.length; what++) {
            due.is(fields[what], x.personIs(0, what), "personIs(0, " + what + ")");
        }
        x.drop(1, 1);
        x.hours(1);
        due.is(1, x.personIs(0, 3), "AT of a LIAR who fell");
        due.is(1, x.personIs(0, 4), "LOST of a LIAR who fell");
        due.is(Due.BEYOND, x.personIs(1, 0), "personIs of nobody");
        due.is(Due.BEYOND, x.personIs(-1, 0), "personIs(-1, 0)");
        due.is(Due.BEYOND, x.personIs(0, 8), "personIs(0, 8)");
        due.is(Due.BEYOND, x.personIs(0, -1), "personIs(0, -1)");
    }

    private static void personIsClear() {
        AnswerPass x = Passes.with(5, 59, 13, 79, 20, 29, 39, 0, 40, 70, 57, 0);
        due.is(5, x.personIs(0, 5), "MAN sees SURE by 10");
        due.is(3, x.personIs(1, 5), "DRUMMER sees half, cut");
        due.is(0, x.personIs(2, 5), "DEPENDS sees 0 at least");
        due.is(18, x.personIs(3, 5), "LIAR sees 9 and m");
        due.is(8, x.personIs(4, 5), "HONEYMOON sees as DRUMMER and the five TOGETHER");
        due.is(2, x.personIs(5, 5), "PILGRIM sees 1 and the rest of m by 2");
        x.puts(0, 3);
        due.is(7, x.personIs(4, 5), "four are TOGETHER");
        x.drop(1, 1);
        x.hours(1);
        x.puts(4, 1);
        due.is(1, x.personIs(3, 4), "the LIAR is LOST");
        due.is(1, x.personIs(3, 3), "the LIAR is AT 1");
        due.is(3, x.personIs(4, 5), "who is LOST isn't TOGETHER");
        x.become(5, 68);
        x.hour(9);
        due.is(4, x.personIs(5, 5), "OLD sees as MAN and the rest of HOUR by 5");
        x.become(2, 20);
        x.answers(2, 99);
        due.is(6, x.personIs(2, 5), "DEPENDS sees 3 less");
        Due.tells(x, 0, "s-h+c");
        due.is(20, x.personIs(2, 5), "CLEAR is held at 20");
        x.answers(2, 11);
        due.is(2, x.personIs(2, 5), "CLEAR by c, s and h");
        x.hour(24 + 12);
        due.is(0, x.personIs(2, 5), "CLEAR is held at 0");
    }

    private static void personIsPaceAndFalls() {
        AnswerPass x = Passes.with(0, 39, 0, 40, 24, 13, 24, 14, 30, 99, 65, 0);
        due.is(1, x.personIs(0, 6), "PACE where CLEAR is 3");
        due.is(2, x.personIs(1, 6), "PACE where CLEAR is 4");
        due.is(0, x.personIs(0, 7), "MAN never falls");
        due.is(1, x.personIs(2, 7), "DEPENDS falls below 10 and m");
        due.is(0, x.personIs(3, 7), "DEPENDS does not fall at 10 and m");
        due.is(1, x.personIs(4, 7), "LIAR always falls");
        x.hour(15);
        due.is(0, x.personIs(5, 7), "OLD does not fall at 20 less m");
        x.hour(24 + 16);
        due.is(1, x.personIs(5, 7), "OLD falls above 20 less m");
        x.become(5, 15);
        due.is(0, x.personIs(5, 7), "DRUMMER never falls");
        x.become(5, 45);
        due.is(0, x.personIs(5, 7), "HONEYMOON never falls");
        x.become(5, 55);
        due.is(0, x.personIs(5, 7), "PILGRIM never falls");
        Due.tells(x, 1, "c+m*10+k*100");
        due.is(3, x.personIs(5, 6), "PACE is held at 3");
        Due.tells(x, 1, "k-m+c");
        due.is(2, x.personIs(5, 6), "PACE by c, m and k: 5 less 5 and 2");
    }

    private static void become() {
        AnswerPass x = Passes.with(12, 55);
        x.puts(0, 4);
        due.is(1, x.become(0, 69), "become tells the KIND that one was");
        due.is(6, x.personIs(0, 0), "the new KIND");
        due.is(9, x.personIs(0, 1), "the new m");
        due.is(55, x.personIs(0, 2), "SURE stays");
        due.is(4, x.personIs(0, 3), "AT stays");
        due.is(Due.BEYOND, x.become(0, 70), "become(0, 70)");
        due.is(Due.BEYOND, x.become(0, -1), "become(0, -1)");
        due.is(Due.BEYOND, x.become(1, 0), "nobody becomes");
        due.is(6, x.become(0, 0), "nothing changed by ERRORS");
    }

    private static void as() {
        AnswerPass x = Passes.with(47, 0, 58, 0, 9, 0);
        due.is(7, x.as(0, 4), "HONEYMOON as HONEYMOON");
        due.is(7, x.as(0, 1), "HONEYMOON as DRUMMER");
        due.is(7, x.as(0, 0), "HONEYMOON as MAN");
        due.is(Due.KIND, x.as(0, 2), "HONEYMOON as DEPENDS");
        due.is(8, x.as(1, 2), "PILGRIM as DEPENDS");
        due.is(Due.KIND, x.as(1, 4), "PILGRIM as HONEYMOON");
        due.is(9, x.as(2, 0), "MAN as MAN");
        due.is(Due.KIND, x.as(2, 6), "MAN as OLD");
        due.is(Due.BEYOND, x.as(2, 7), "as(2, 7)");
        due.is(Due.BEYOND, x.as(2, -1), "as(2, -1)");
        due.is(Due.BEYOND, x.as(3, 0), "nobody as MAN");
    }

    private static void answers() {
        AnswerPass x = Passes.with(0, 12);
        due.is(12, x.answers(0, 99), "answers tells what it was");
        due.is(Due.BEYOND, x.answers(0, 100), "answers(0, 100)");
        due.is(Due.BEYOND, x.answers(0, -1), "answers(0, -1)");
        due.is(Due.BEYOND, x.answers(1, 5), "nobody answers");
        due.is(99, x.answers(0, 0), "ERRORS changed nothing");
    }

    private static void puts() {
        AnswerPass x = Passes.with(30, 12);
        x.drop(2, 1);
        x.hours(1);
        due.is(1, x.personIs(0, 4), "LOST ahead of puts");
        due.is(2, x.puts(0, 2), "puts tells AT which one was");
        due.is(0, x.personIs(0, 4), "not LOST behind puts, on a DROP");
        due.is(Due.BEYOND, x.puts(0, 16), "puts(0, 16)");
        due.is(Due.BEYOND, x.puts(0, -1), "puts(0, -1)");
        due.is(Due.BEYOND, x.puts(1, 0), "puts of nobody");
        due.is(2, x.puts(0, 15), "ERRORS changed nothing");
        due.is(1, x.count(3), "who is AT 15 is THROUGH");
    }

    private static void drop() {
        AnswerPass x = new AnswerPass();
        due.is(0, x.drop(1, 1), "drop(1, 1)");
        due.is(1, x.drop(1, 1), "drop(1, 1) once more");
        due.is(0, x.drop(14, 1), "drop(14, 1)");
        due.is(1 << 1 | 1 << 14, x.count(1), "DROPS");
        due.is(1, x.drop(1, 0), "drop(1, 0)");
        due.is(0, x.drop(1, 0), "drop(1, 0) once more");
        due.is(Due.BEYOND, x.drop(0, 1), "drop(0, 1)");
        due.is(Due.BEYOND, x.drop(15, 1), "drop(15, 1)");
        due.is(Due.BEYOND, x.drop(3, 2), "drop(3, 2)");
        due.is(Due.BEYOND, x.drop(3, -1), "drop(3, -1)");
        due.is(1 << 14, x.count(1), "DROPS behind ERRORS");
    }

    private static void feed() {
        AnswerPass x = new AnswerPass();
        due.is(3, x.feed(0x6D2B63L, 3), "feed c+m");
        due.is(-12, x.text(0), "the lowest byte comes first: m is no NAME of CLEAR");
        due.is(Due.BEYOND, x.feed(0, 0), "feed no bytes");
        due.is(Due.BEYOND, x.feed(0, 9), "feed nine bytes");
        for (int i = 1; i <= 7; i++) {
            due.is(8 * i, x.feed(0x2B632B632B632B63L, 8), "feed eight");
        }
        due.is(Due.FULL, x.feed(0, 5), "more than 60 bytes");
        due.is(56, x.count(4), "FULL took none");
        due.is(60, x.feed(0x632B2B63L, 4), "60 bytes");
        due.is(Due.FULL, x.feed(0x63L, 1), "a byte too many");
        due.is(Due.BEYOND, x.feed(0x63L, 9), "BEYOND is asked ahead of FULL");
        due.is(-10 - 58, x.text(0), "c+ 28 times, then c++c");
        due.is(8, x.feed(-1L, 8), "any bytes");
        due.is(-10, x.text(1), "byte 255 begins no TEXT");
    }

    private static void textsThatStand() {
        AnswerPass x = new AnswerPass();
        String[] texts = {
            "c", "s", "h", "0", "9999", "0007", "c+1", "c-s-h", "1*2/3%4", "c|s&h", "c<s", "c=s", "c>s", "!!!!!c", "(((((c)))))",
            "!(!(!c))", "(c<s)<h", "c<s&s<h|h<c", "(c)+(s)+(h)+(c)+(s)+(h)", "!c+!c+!c+!c+!c+!c", "c<(s<h)", "!!!!(c)",
        };
        for (String text : texts) {
            due.is(1, Due.tells(x, 0, text), "the TEXT " + text);
            due.is(0, x.count(4), "THE TAPE is empty behind " + text);
        }
        due.is(1, Due.tells(x, 1, "c+m-k"), "NAMES of PACE");
        Due.feeds(x, "c");
        due.is(Due.BEYOND, x.text(2), "text(2)");
        due.is(Due.BEYOND, x.text(-1), "text(-1)");
        due.is(1, x.count(4), "THE TAPE stays by BEYOND");
        due.is(1, x.text(1), "and is a TEXT then");
    }

    private static void textsThatFault() {
        AnswerPass x = new AnswerPass();
        due.is(1, Due.tells(x, 0, "7"), "a TEXT ahead");
        Object[][] faults = {
            {"", 0}, {"+", 0}, {"-1", 0}, {" c", 0}, {"c ", 1}, {"m", 0}, {"k", 0}, {"c+", 2}, {"c+k", 2}, {"12345", 4}, {"00000", 4},
            {"cs", 1}, {"1c", 1}, {"c1", 1}, {"c!s", 1}, {"c<s<h", 3}, {"c=s>h", 3}, {"(c<s=h)", 4}, {"c<s&s<h<c", 7}, {")", 0}, {"c)", 1},
            {"(c", 2}, {"(c))", 3}, {"()", 1}, {"((((((c", 5}, {"!!!!!!c", 5}, {"!(!(!(c", 5}, {"!!!!!(c)", 5}, {"(!(!(c", 6}, {"(!(!(!c", 5},
            {"c||s", 2}, {"c&", 2}, {"c(s)", 1}, {"(c)(s)", 3}, {"(c)s", 3}, {"!", 1}, {"!+c", 1}, {"C", 0}, {"c+1234567", 6}, {"c#", 1},
        };
        for (Object[] fault : faults) {
            due.is(-10 - (Integer) fault[1], Due.tells(x, 0, (String) fault[0]), "the FAULT of " + fault[0]);
            due.is(0, x.count(4), "THE TAPE is empty behind " + fault[0]);
            due.is(7, x.law(0, 1, 2, 3), "the TEXT ahead stays behind " + fault[0]);
        }
        due.is(-10, Due.tells(x, 1, "s"), "s is no NAME of PACE");
        due.is(-10, Due.tells(x, 1, "h"), "h is no NAME of PACE");
        due.is(0, x.told(1), "a FAULT is no ERROR");
    }

    private static void textsWorkedOut() {
        AnswerPass x = new AnswerPass();
        Object[][] given = {
            {"10-3-2", 5}, {"2+3*4", 14}, {"(2+3)*4", 20}, {"20/3/2", 3}, {"17%5*3", 6}, {"7/0+3", 3}, {"7%0+4", 4}, {"(0-7)/2+9", 6},
            {"(0-7)%4+9", 6}, {"0|0", 0}, {"5|0", 1}, {"5&3", 1}, {"5&0", 0}, {"3<5", 1}, {"5<5", 0}, {"5=5", 1}, {"5=4", 0}, {"5>4", 1},
            {"4>4", 0}, {"!5", 0}, {"!0", 1}, {"!!9", 1}, {"!0*7", 7}, {"1|0&0", 1}, {"(1|0)&0", 0}, {"2<1+2", 1}, {"1&2<3", 1}, {"(3)", 3},
            {"9999-9990", 9}, {"0012", 12}, {"9999*9999*9999*9999%17", 9999 * 9999 * 9999 * 9999 % 17}, {"c*100+s*10+h", 20},
        };
        for (Object[] g : given) {
            int due0 = Math.max(0, Math.min(20, (Integer) g[1]));
            due.is(1, Due.tells(x, 0, (String) g[0]), "the TEXT " + g[0]);
            due.is(due0, x.law(0, 1, 2, 3), "law by " + g[0]);
        }
        Due.tells(x, 0, "c/s");
        due.is(0, x.law(0, Integer.MIN_VALUE, -1, 0), "the least int by -1 wraps to itself");
        Due.tells(x, 0, "c%s+2");
        due.is(2, x.law(0, Integer.MIN_VALUE, -1, 0), "the least int leaves 0 by -1");
        Due.tells(x, 0, "c+1");
        due.is(0, x.law(0, Integer.MAX_VALUE, 0, 0), "ints wrap");
    }

    private static void untell() {
        AnswerPass x = new AnswerPass();
        due.is(0, x.untell(0), "untell where there is none");
        Due.tells(x, 0, "5");
        Due.tells(x, 1, "3");
        due.is(1, x.untell(0), "untell where there is one");
        due.is(9, x.law(0, 9, 0, 0), "CLEAR without a TEXT again");
        due.is(3, x.law(1, 9, 0, 0), "the other TEXT stays");
        due.is(0, x.untell(0), "untell twice");
        due.is(Due.BEYOND, x.untell(2), "untell(2)");
        due.is(Due.BEYOND, x.untell(-1), "untell(-1)");
    }

    private static void law() {
        AnswerPass x = new AnswerPass();
        due.is(20, x.law(0, 21, 0, 0), "CLEAR is held at 20 without a TEXT");
        due.is(0, x.law(0, Integer.MIN_VALUE, 0, 0), "CLEAR is held at 0 without a TEXT");
        due.is(1, x.law(1, 3, 9, 9), "PACE without a TEXT where c is 3");
        due.is(2, x.law(1, 4, 0, 0), "PACE without a TEXT where c is 4");
        Due.tells(x, 0, "c-s*2+h%10");
        due.is(3 - 8 + 7, x.law(0, 3, 4, 27), "NAMES c, s, h in order");
        Due.tells(x, 1, "c-m*2+k%10");
        due.is(3, x.law(1, 9, 4, 12), "NAMES c, m, k in order");
        due.is(0, x.law(1, 9, 40, 12), "PACE is held at 0");
        due.is(3, x.law(1, 90, 4, 12), "PACE is held at 3");
        due.is(Due.BEYOND, x.law(2, 0, 0, 0), "law(2, ..)");
        due.is(Due.BEYOND, x.law(-1, 0, 0, 0), "law(-1, ..)");
    }

    private static void hours() {
        AnswerPass x = Passes.with(0, 99, 0, 5, 39, 0);
        due.is(Due.BEYOND, x.hours(0), "hours(0)");
        due.is(Due.BEYOND, x.hours(61), "hours(61)");
        x.drop(9, 1);
        due.is(0, x.hours(8), "nobody is THROUGH");
        due.is(8, x.count(2), "HOUR");
        due.is(8, x.personIs(0, 3), "MAN stops ahead of a DROP");
        due.is(0, x.personIs(1, 3), "who sees 0 goes nowhere");
        due.is(9, x.personIs(2, 3), "LIAR falls");
        due.is(1, x.personIs(2, 4), "LIAR is LOST");
        x.drop(9, 0);
        due.is(1, x.hours(60), "MAN is THROUGH");
        due.is(15, x.personIs(0, 3), "no further than 15");
        due.is(9, x.personIs(2, 3), "who is LOST stays");
        x.hour(9940);
        due.is(Due.STATE, x.hours(60), "HOUR would be 10000");
        due.is(9940, x.count(2), "STATE changed nothing");
        due.is(1, x.hours(59), "HOUR is 9999");
        due.is(Due.STATE, x.hours(1), "no HOUR behind 9999");
        due.is(Due.BEYOND, x.hours(61), "BEYOND is asked ahead of STATE");
    }

    private static void hoursOneByOne() {
        AnswerPass x = Passes.with(0, 40, 40, 60);
        x.hours(1);
        due.is(2, x.personIs(0, 3), "the first goes first");
        due.is(1, x.personIs(1, 3), "HONEYMOON sets out alone then: sees 3");
        x = Passes.with(40, 60, 0, 40);
        x.hours(1);
        due.is(2, x.personIs(0, 3), "HONEYMOON sets out TOGETHER with one: sees 4");
        x = Passes.with(0, 99);
        Due.tells(x, 0, "1");
        Due.tells(x, 1, "3");
        x.hours(1);
        due.is(1, x.personIs(0, 3), "no more than CLEAR times");
        x.untell(0);
        x.hours(1);
        due.is(4, x.personIs(0, 3), "PACE times");
        x = Passes.with(30, 0);
        x.drop(1, 1);
        x.drop(2, 1);
        x.hours(5);
        due.is(1, x.personIs(0, 3), "who falls stops");
        x.puts(0, 1);
        x.hours(1);
        due.is(2, x.personIs(0, 3), "from a DROP one goes on to the next");
        x = Passes.with(65, 20);
        x.drop(15 - 1, 1);
        x.puts(0, 13);
        x.hour(15);
        x.hours(1);
        due.is(13, x.personIs(0, 3), "OLD stops by day");
        x.hours(1);
        due.is(14, x.personIs(0, 3), "OLD falls toward evening");
        due.is(1, x.personIs(0, 4), "and is LOST");
    }

    private static int draw(int z) {
        return z * 1103515245 + 12345;
    }

    private static void loose() {
        AnswerPass x = new AnswerPass();
        due.is(0, x.loose(1), "loose without PEOPLE");
        int z1 = draw(1);
        int z2 = draw(z1);
        due.is(z2, x.count(7), "two draws without PEOPLE");
        due.is((z2 >>> 8) % 8 == 0 ? 1 << 1 + (z1 >>> 8) % 14 : 0, x.count(1), "DROPS by two draws");
        due.is(1, x.count(2), "HOUR");
        int drops = x.count(1);
        x.person(5, 50);
        x.person(15, 50);
        int z = z2;
        int[] sure = {50, 50};
        for (int i = 0; i < 90; i++) {
            z = draw(z);
            int who = (z >>> 8) % 2;
            z = draw(z);
            sure[who] = Math.max(0, Math.min(99, sure[who] + (z >>> 8) % 21 - 10));
            z = draw(z);
            int cell = 1 + (z >>> 8) % 14;
            z = draw(z);
            drops ^= (z >>> 8) % 8 == 0 ? 1 << cell : 0;
            x.loose(1);
            due.is(z, x.count(7), "z behind four draws");
            due.is(sure[0], x.personIs(0, 2), "SURE of the first");
            due.is(sure[1], x.personIs(1, 2), "SURE of the second");
            due.is(drops, x.count(1), "DROPS");
        }
        due.is(91, x.count(2), "HOUR");
        x.puts(1, 15);
        due.is(2, x.loose(30) & 2, "who is THROUGH");
        due.is(Due.BEYOND, x.loose(0), "loose(0)");
        due.is(Due.BEYOND, x.loose(31), "loose(31)");
        x.hour(9999);
        due.is(Due.STATE, x.loose(1), "no HOUR behind 9999");
        due.is(Due.BEYOND, x.loose(31), "BEYOND is asked ahead of STATE");
        x.hour(9998);
        due.is(2, x.loose(1) & 2, "HOUR 9999 by draws");
    }

    private static void hour() {
        AnswerPass x = new AnswerPass();
        due.is(0, x.hour(9999), "hour(9999)");
        due.is(Due.BEYOND, x.hour(10000), "hour(10000)");
        due.is(Due.BEYOND, x.hour(-1), "hour(-1)");
        due.is(9999, x.hour(0), "hour(0)");
        due.is(0, x.count(2), "HOUR");
    }

    private static void seed() {
        AnswerPass x = new AnswerPass();
        due.is(1, x.seed(-1000000001), "seed");
        due.is(-1000000001, x.count(7), "z may look like an ERROR");
        due.is(-1000000001, x.seed(3), "seed tells what it was");
        due.is(0, x.told(1), "which is none");
    }

    private static void then() {
        AnswerPass x = Passes.with(0, 99, 30, 0);
        x.drop(5, 1);
        due.is(0, x.then(0, 0, 0), "then(0, 0, 0)");
        due.is(4, x.then(0, 60, 0), "MAN stops ahead of a DROP");
        due.is(0, x.then(0, 60, 1), "and is not LOST");
        due.is(4, x.then(1, 2, 0), "LIAR behind 2 HOURS");
        due.is(5, x.then(1, 3, 0), "LIAR behind 3 HOURS");
        due.is(1, x.then(1, 3, 1), "and is LOST");
        due.is(0, x.count(2), "only thought: HOUR");
        due.is(0, x.personIs(1, 4), "only thought: LOST");
        due.is(Due.BEYOND, x.then(2, 0, 0), "then of nobody");
        due.is(Due.BEYOND, x.then(0, 61, 0), "then(0, 61, 0)");
        due.is(Due.BEYOND, x.then(0, -1, 0), "then(0, -1, 0)");
        due.is(Due.BEYOND, x.then(0, 1, 2), "then(0, 1, 2)");
        due.is(Due.BEYOND, x.then(0, 1, -1), "then(0, 1, -1)");
        x = Passes.with(64, 0);
        x.hour(9999);
        // HOUR 9999 leaves 4 by 5, 10000 leaves 0, 10001 leaves 1.
        due.is(2, x.then(0, 2, 0), "HOUR goes beyond 9999 in thought: 4, then 0");
        due.is(3, x.then(0, 3, 0), "HOUR goes beyond 9999 in thought: 1");
        x = Passes.with(40, 60, 0, 40);
        due.is(2, x.then(0, 1, 0), "HONEYMOON in thought TOGETHER with one");
        due.is(4, x.then(0, 2, 0), "and once more: the other kept up");
    }

    private static void soonest() {
        AnswerPass x = Passes.with(0, 10, 30, 0, 0, 0);
        due.is(0, x.soonest(0, 0), "one is there");
        due.is(15, x.soonest(0, 15), "an HOUR a CELL");
        due.is(8, x.soonest(1, 15), "two CELLS an HOUR");
        due.is(2, x.soonest(1, 3), "or beyond");
        due.is(Due.NONE, x.soonest(2, 1), "who sees 0 never comes");
        x.drop(4, 1);
        due.is(Due.NONE, x.soonest(1, 4), "who is LOST is not there");
        due.is(1, x.soonest(1, 2), "ahead of the DROP");
        due.is(Due.NONE, x.soonest(1, 3), "3 is only passed on the way into the DROP");
        Due.tells(x, 0, "h=0");
        x.hour(1);
        due.is(24, x.soonest(2, 1), "behind 23 HOURS one sets out");
        due.is(Due.NONE, x.soonest(2, 3), "not by 60");
        due.is(Due.BEYOND, x.soonest(2, 16), "soonest(2, 16)");
        due.is(Due.BEYOND, x.soonest(2, -1), "soonest(2, -1)");
        due.is(Due.BEYOND, x.soonest(3, 1), "soonest of nobody");
        x.hour(13);
        due.is(60, x.soonest(2, 3), "behind 60 HOURS: 12, 36, 60");
        x.hour(12);
        due.is(Due.NONE, x.soonest(2, 3), "behind 61 HOURS");
    }

    private static void least() {
        AnswerPass x = Passes.with(0, 99, 25, 0);
        due.is(0, x.least(0, 0, 0), "one is there");
        due.is(10, x.least(0, 15, 15), "an HOUR a CELL");
        due.is(40, x.least(0, 15, 14), "two CELLS an HOUR");
        due.is(Due.NONE, x.least(0, 15, 7), "none by 7");
        due.is(40, x.least(0, 15, 8), "by 8");
        due.is(40, x.least(1, 1, 20), "DEPENDS sees 1 by 40");
        due.is(99, x.personIs(0, 2), "only thought");
        x.drop(1, 1);
        due.is(Due.NONE, x.least(0, 1, 20), "a DROP");
        due.is(Due.BEYOND, x.least(0, 1, 21), "least(0, 1, 21)");
        due.is(Due.BEYOND, x.least(0, 1, -1), "least(0, 1, -1)");
        due.is(Due.BEYOND, x.least(0, 16, 1), "least(0, 16, 1)");
        due.is(Due.BEYOND, x.least(0, -1, 1), "least(0, -1, 1)");
        due.is(Due.BEYOND, x.least(2, 1, 1), "least of nobody");
    }

    private static void fills() {
        AnswerPass x = Passes.with(0, 50, 30, 0);
        x.drop(5, 1);
        x.drop(9, 1);
        due.is(0, x.fills(0, 4, 20, 0), "no DROP is in the way");
        due.is(0, x.fills(0, 4, 20, 1), "the set of none");
        due.is(1, x.fills(0, 5, 20, 0), "one DROP");
        due.is(1 << 5, x.fills(0, 5, 20, 1), "the set of one");
        due.is(2, x.fills(0, 15, 20, 0), "two DROPS");
        due.is(1 << 5 | 1 << 9, x.fills(0, 15, 20, 1), "the set of two");
        due.is(Due.NONE, x.fills(0, 15, 7, 0), "not in 7 HOURS");
        x.drop(12, 1);
        due.is(Due.NONE, x.fills(0, 15, 20, 1), "not by 2");
        due.is(1 << 5 | 1 << 9 | 1 << 12, x.count(1), "only thought");
        x = Passes.with(30, 0);
        x.drop(1, 1);
        x.puts(0, 1);
        due.is(0, x.fills(0, 15, 20, 0), "a DROP behind one is not in the way");
        x = Passes.with(40, 99, 0, 40, 40, 0);
        x.drop(1, 1);
        x.drop(2, 1);
        x.drop(4, 1);
        due.is(1 << 1 | 1 << 2, x.fills(0, 3, 20, 1), "the least set of two");
        due.is(Due.BEYOND, x.fills(0, 3, 20, 2), "fills(.., 2)");
        due.is(Due.BEYOND, x.fills(0, 3, 20, -1), "fills(.., -1)");
        due.is(Due.BEYOND, x.fills(0, 3, 21, 0), "fills for 21");
        due.is(Due.BEYOND, x.fills(0, 3, -1, 0), "fills for -1");
        due.is(Due.BEYOND, x.fills(0, 16, 1, 0), "fills for CELL 16");
        due.is(Due.BEYOND, x.fills(3, 1, 1, 0), "fills of nobody");
    }

    private static void withWhom() {
        AnswerPass x = Passes.with(0, 40);
        due.is(Due.NONE, x.withWhom(0, 3), "nobody else");
        x.person(0, 0);
        x.person(0, 0);
        due.is(1, x.withWhom(0, 3), "of several the least");
        due.is(0, x.withWhom(2, 3), "the least is another one");
        x.puts(1, 12);
        due.is(2, x.withWhom(0, 2), "from 12 one gets 3 far, from 0 four");
        due.is(1, x.withWhom(0, 1), "from either 2 far");
        x.drop(2, 1);
        due.is(1, x.withWhom(0, 2), "a DROP on the way from 0");
        due.is(0, x.personIs(0, 3), "only thought");
        x = Passes.with(30, 0, 0, 0, 0, 0);
        x.puts(1, 4);
        x.puts(2, 6);
        x.drop(5, 1);
        x.hours(3);
        due.is(1, x.personIs(0, 4), "the LIAR is LOST");
        due.is(2, x.withWhom(0, 1), "he isn't where another one is; from 4 he would be again: as 0");
        x.drop(7, 1);
        due.is(1, x.withWhom(0, 1), "LOST from both: as 0, the least");
        due.is(Due.BEYOND, x.withWhom(0, 21), "withWhom(0, 21)");
        due.is(Due.BEYOND, x.withWhom(0, -1), "withWhom(0, -1)");
        due.is(Due.BEYOND, x.withWhom(3, 1), "withWhom of nobody");
    }

    private static void odds() {
        AnswerPass x = Passes.with(0, 0, 20, 0);
        due.is(1, x.odds(0, 0, 0, 0), "all of 100: above");
        due.is(1, x.odds(0, 0, 0, 1), "all of 100: below");
        due.is(9, x.odds(0, 1, 1, 0), "90 of 100: above");
        due.is(10, x.odds(0, 1, 1, 1), "90 of 100: below");
        due.is(3, x.odds(0, 15, 8, 0), "60 of 100: above");
        due.is(5, x.odds(0, 15, 8, 1), "60 of 100: below");
        due.is(0, x.odds(0, 15, 7, 0), "none of 100: above");
        due.is(1, x.odds(0, 15, 7, 1), "none of 100: below");
        Due.tells(x, 0, "s=37");
        due.is(1, x.odds(0, 1, 1, 0), "1 of 100: above");
        due.is(100, x.odds(0, 1, 1, 1), "1 of 100: below");
        due.is(0, x.personIs(0, 2), "only thought");
        due.is(Due.BEYOND, x.odds(0, 1, 1, 2), "odds part 2");
        due.is(Due.BEYOND, x.odds(0, 1, 1, -1), "odds part -1");
        due.is(Due.BEYOND, x.odds(0, 1, 21, 0), "odds by 21");
        due.is(Due.BEYOND, x.odds(0, 16, 1, 0), "odds of CELL 16");
        due.is(Due.BEYOND, x.odds(2, 1, 1, 0), "odds of nobody");
    }

    private static void fits() {
        AnswerPass x = Passes.with(60, 5);
        Passes.lays(x, 0, 8, 3, 4, 5, 6, 7, 3);
        due.is(10, x.fits(0, 0, 0), "OLD by the rest of HOUR by 5");
        due.is(30, x.fits(0, 0, 1), "the least");
        due.is(5, x.personIs(0, 2), "only thought");
        x.put(0, 5, 8);
        due.is(0, x.fits(0, 0, 0), "none fits");
        due.is(Due.NONE, x.fits(0, 0, 1), "no least");
        x.sheet(1, 32, 0);
        due.is(100, x.fits(1, 0, 0), "all fit an empty SHEET");
        due.is(0, x.fits(1, 0, 1), "the least of all");
        due.is(Due.NONE, x.fits(2, 0, 0), "the SHEET is missing");
        due.is(Due.BEYOND, x.fits(4, 0, 0), "fits(4, ..)");
        due.is(Due.BEYOND, x.fits(-1, 0, 0), "fits(-1, ..)");
        due.is(Due.BEYOND, x.fits(2, 1, 0), "BEYOND is asked ahead of NONE");
        due.is(Due.BEYOND, x.fits(0, 0, 2), "fits(.., 2)");
        due.is(Due.BEYOND, x.fits(0, 0, -1), "fits(.., -1)");
        x = Passes.with(40, 0, 30, 0);
        x.drop(1, 1);
        Passes.lays(x, 0, 16, 4, 3, 3);
        due.is(20, x.fits(0, 0, 0), "HONEYMOON whom the LIAR leaves");
        due.is(60, x.fits(0, 0, 1), "the least HONEYMOON");
    }

    private static void voice() {
        int[][] voices = {
            // km, voice, x, due; each is person 1, so that k is 1
            {5, 0, 7, 8}, {5, 1, 7, 16}, {5, 2, 7, 11}, {5, 3, 7, 1}, {15, 0, 7, 4}, {15, 1, 7, 8}, {15, 2, 7, 3}, {15, 3, 7, 1 - 4},
            {25, 0, 7, 8}, {25, 1, 7, -16}, {25, 2, 7, -21}, {25, 3, 7, 1}, {35, 2, 7, 3}, {35, 2, -7, -9}, {45, 0, 7, 12}, {45, 1, 7, 24},
            {45, 2, 7, 19 ^ 1}, {45, 3, 7, 1 - 12}, {55, 1, 7, -18}, {55, 2, 7, -23}, {55, 3, 7, 1}, {65, 0, 7, 9}, {65, 1, 7, 23}, {65, 2, 7, 18},
            {65, 3, -9, -2}, {0, 3, Integer.MIN_VALUE, Integer.MIN_VALUE}, {5, 1, Integer.MAX_VALUE, 0}, {0, 0, -1000000002, -1000000001},
        };
        for (int[] v : voices) {
            AnswerPass x = Passes.with(0, 0, v[0], 0);
            due.is(v[3], x.voice(1, v[1], v[2]), "voice " + v[1] + " of " + v[0] + " with " + v[2]);
            due.is(0, x.told(1), "no ERROR by an answer that looks like one");
        }
        AnswerPass x = Passes.with(0, 0);
        due.is(Due.BEYOND, x.voice(0, 4, 0), "voice(0, 4, 0)");
        due.is(Due.BEYOND, x.voice(0, -1, 0), "voice(0, -1, 0)");
        due.is(Due.BEYOND, x.voice(1, 0, 0), "voice of nobody");
    }

    private static void voiceParted() {
        for (int kind = 0; kind < 7; kind++) {
            AnswerPass x = Passes.with(0, 0, 10 * kind + 1, 0);
            x.voice(1, 2, 5);
            due.is(Due.PARTED, x.voice(1, 3, 5), "PARTED where m is k, KIND " + kind);
            due.is(1, x.told(6), "PARTED is told");
            due.is(Due.PARTED, x.voice(1, 3, 0), "PARTED, whatever x is");
            due.is(2, x.told(6), "PARTED is told again");
            x.become(1, 10 * kind + 2);
            due.is(0, x.voice(1, 3, 5) == Due.PARTED ? 1 : 0, "not PARTED where m is not k");
            due.is(2, x.told(6), "nor told");
        }
    }

    private static void bodyOfParted() {
        for (int kind = 0; kind < 7; kind++) {
            AnswerPass x = Passes.with(0, 0, 10 * kind + 1, 0);
            x.voice(1, 2, 5);
            x.voice(1, 3, 5);
            boolean byDrummer = kind == 1 || kind == 4;
            int bodies = byDrummer ? 2 : 1;
            due.is(bodies, x.count(6), "what began of a voice() that PARTED, KIND " + kind);
            due.is(byDrummer ? 21 : 13, x.body(0), "the first BODY of a voice() that PARTED, KIND " + kind);
            due.is(byDrummer ? 13 : Due.NONE, x.body(1), "nothing begins behind BODY 13, KIND " + kind);
            due.is(Due.NONE, x.body(bodies), "none behind the last, KIND " + kind);
            x.voice(1, 4, 0);
            x.voice(2, 0, 0);
            x.voice(-1, 3, 0);
            due.is(bodies, x.count(6), "BEYOND leaves THE TRACE of what PARTED");
            due.is(byDrummer ? 21 : 13, x.body(0), "BEYOND leaves its first BODY");
            x.voice(1, 1, 0);
            due.is(kind == 5 ? 60 : kind == 2 ? 30 : kind == 6 ? 71 : 11, x.body(0), "a later voice() has all its BODIES");
            due.is(new int[] {2, 3, 3, 2, 4, 4, 3}[kind], x.count(6), "how many they are, KIND " + kind);
        }
    }

    private static void body() {
        int[][] traces = {
            // km, voice, then THE TRACE
            {0, 2, 12, 11, 10}, {10, 3, 21, 13, 11, 20, 10}, {20, 2, 12, 30, 11, 10}, {30, 2, 40, 12, 11, 10}, {40, 2, 51, 12, 11, 50, 20, 10},
            {40, 3, 21, 13, 11, 50, 20, 10}, {50, 2, 12, 60, 30, 11, 10}, {60, 2, 12, 71, 11, 70}, {60, 0, 70}, {60, 3, 13},
        };
        for (int[] t : traces) {
            AnswerPass x = Passes.with(0, 0, t[0], 0);
            due.is(Due.NONE, x.body(0), "no TRACE at first");
            x.voice(0, 0, 1);
            x.voice(1, t[1], 3);
            due.is(t.length - 2, x.count(6), "how many BODIES of voice " + t[1] + " of " + t[0]);
            for (int i = 2; i < t.length; i++) {
                due.is(t[i], x.body(i - 2), "BODY " + (i - 2) + " of voice " + t[1] + " of " + t[0]);
            }
            due.is(Due.NONE, x.body(t.length - 2), "none behind the last");
            due.is(Due.NONE, x.body(-1), "body(-1)");
            x.voice(1, 4, 0);
            due.is(t[2], x.body(0), "BEYOND leaves THE TRACE");
        }
    }

    private static void sheet() {
        AnswerPass x = Passes.with(0, 50);
        due.is(1, x.sheet(0, 8, 24), "sheet(0, 8, 24)");
        due.is(1, x.put(0, 23, 5), "the last number");
        due.is(1, x.sheet(3, 16, 0), "sheet(3, 16, 0)");
        due.is(0, x.judge(3), "it is there, and empty");
        due.is(1, x.sheet(0, 32, 2), "sheet(0, 32, 2)");
        due.is(1, x.judge(0), "all its numbers are 0: the one of PEOPLE is AT 0");
        due.is(Due.BEYOND, x.put(0, 2, 1), "it has two numbers");
        due.is(1, x.sheet(0, 0, -5), "n doesn't matter for a missing one");
        due.is(Due.NONE, x.judge(0), "it is missing");
        due.is(1, x.sheet(0, 0, 99), "missing still");
        due.is(Due.BEYOND, x.sheet(4, 8, 1), "sheet(4, ..)");
        due.is(Due.BEYOND, x.sheet(-1, 8, 1), "sheet(-1, ..)");
        due.is(Due.BEYOND, x.sheet(3, 7, 1), "7 bits");
        due.is(Due.BEYOND, x.sheet(3, 7, -1), "BEYOND of bits is ahead of STATE");
        due.is(Due.BEYOND, x.sheet(4, 0, 1), "BEYOND of a missing SHEET that there is not");
        due.is(Due.STATE, x.sheet(3, 8, -1), "n below 0");
        due.is(Due.BEYOND, x.sheet(3, 8, 25), "25 numbers");
        due.is(0, x.judge(3), "ERRORS changed nothing");
    }

    private static void put() {
        AnswerPass x = Passes.with(0, 50, 0, 50);
        due.is(Due.NONE, x.put(0, 0, 1), "put to a missing SHEET");
        due.is(Due.BEYOND, x.put(4, 0, 1), "put(4, ..)");
        due.is(Due.BEYOND, x.put(-1, 0, 1), "put(-1, ..)");
        x.sheet(0, 8, 2);
        due.is(1, x.put(0, 0, 256 + 77), "the lowest 8 bits");
        due.is(1, x.put(0, 1, 512), "the lowest 8 bits are 0");
        due.is(2, x.sures(0), "both are 0 to 99");
        due.is(77, x.personIs(0, 2), "77 of 8 bits");
        due.is(0, x.personIs(1, 2), "0 of 8 bits");
        x.sheet(0, 16, 1);
        x.put(0, 0, 65536 * 3 + 44);
        x.sures(0);
        due.is(44, x.personIs(0, 2), "44 of 16 bits");
        x.sheet(0, 32, 1);
        x.put(0, 0, 65536 * 3 + 44);
        due.is(0, x.sures(0), "all bits of 32");
        due.is(Due.BEYOND, x.put(0, 1, 1), "behind the last number");
        due.is(Due.BEYOND, x.put(0, -1, 1), "ahead of the first number");
    }

    private static void move() {
        AnswerPass x = Passes.with(0, 0, 0, 0, 0, 0, 0, 0, 0, 0);
        Passes.lays(x, 0, 8, 1, 2, 3, 4, 5);
        due.is(4, x.move(0, 0, 0, 1, 4), "up within a SHEET");
        x.sures(0);
        int[] up = {1, 1, 2, 3, 4};
        for (int i = 0; i < 5; i++) {
            due.is(up[i], x.personIs(i, 2), "number " + i + " moved up");
        }
        due.is(3, x.move(0, 2, 0, 0, 3), "down within a SHEET");
        x.sures(0);
        int[] down = {2, 3, 4, 3, 4};
        for (int i = 0; i < 5; i++) {
            due.is(down[i], x.personIs(i, 2), "number " + i + " moved down");
        }
        Passes.lays(x, 1, 8, 9, 9);
        due.is(1, x.move(0, 4, 1, 1, 1), "to another SHEET");
        x.sures(1);
        due.is(4, x.personIs(1, 2), "number 1 of the other");
        due.is(0, x.move(0, 5, 1, 2, 0), "none from the end");
        due.is(Due.BEYOND, x.move(4, 0, 0, 0, 1), "move(4, ..)");
        due.is(Due.BEYOND, x.move(0, 0, -1, 0, 1), "move(.., -1, ..)");
        due.is(Due.BEYOND, x.move(2, 0, 4, 0, 1), "BEYOND is asked ahead of NONE");
        due.is(Due.NONE, x.move(0, 0, 2, 0, 1), "the other is missing");
        due.is(Due.NONE, x.move(2, 0, 0, 0, -1), "one is missing");
        x.sheet(2, 16, 5);
        due.is(Due.KIND, x.move(0, 0, 2, 0, 1), "unlike bits");
        due.is(Due.KIND, x.move(0, 0, 2, 0, -1), "KIND is asked ahead of BEYOND");
        int max = Integer.MAX_VALUE;
        int[][] beyond = {{0, 0, -1}, {-1, 0, 1}, {0, -1, 1}, {3, 0, 3}, {0, 1, 2}, {max, 0, 1}, {0, max, 1}, {0, 0, max}, {1, 1, max}, {6, 0, 0}};
        for (int[] b : beyond) {
            due.is(Due.BEYOND, x.move(0, b[0], 1, b[1], b[2]), "move from " + b[0] + " to " + b[1] + " of " + b[2]);
        }
    }

    private static void sures() {
        AnswerPass x = Passes.with(0, 1, 0, 2, 0, 3);
        Passes.lays(x, 0, 32, 99, 0, 50, 50);
        due.is(3, x.sures(0), "up to one for whom there is nobody");
        due.is(99, x.personIs(0, 2), "SURE of the first");
        due.is(0, x.personIs(1, 2), "SURE of the second");
        Passes.lays(x, 0, 32, 7, 100, 8);
        due.is(1, x.sures(0), "up to 100");
        due.is(7, x.personIs(0, 2), "SURE ahead of it");
        due.is(50, x.personIs(2, 2), "SURE behind it stays");
        Passes.lays(x, 0, 32, -1);
        due.is(0, x.sures(0), "up to -1");
        due.is(0, x.told(1), "no ERROR");
        due.is(Due.NONE, x.sures(1), "missing");
        due.is(Due.BEYOND, x.sures(4), "sures(4)");
        due.is(Due.BEYOND, x.sures(-1), "sures(-1)");
    }

    private static void judge() {
        AnswerPass x = Passes.with(0, 1, 0, 2, 0, 3);
        x.puts(0, 4);
        x.puts(2, 9);
        Passes.lays(x, 0, 8, 4, 0, 9, 0);
        due.is(3, x.judge(0), "all are right, then there is nobody");
        x.puts(1, 1);
        due.is(1, x.judge(0), "up to the first that is wrong");
        x.puts(0, 0);
        due.is(0, x.judge(0), "the first is wrong");
        due.is(Due.NONE, x.judge(1), "missing");
        due.is(Due.BEYOND, x.judge(4), "judge(4)");
        due.is(Due.BEYOND, x.judge(-1), "judge(-1)");
    }

    private static void image() {
        AnswerPass x = Passes.with(0, 10);
        due.is(1, x.image(), "the first IMAGE");
        x.answers(0, 20);
        due.is(2, x.image(), "the second IMAGE");
        x.answers(0, 30);
        x.restore();
        due.is(20, x.personIs(0, 2), "the IMAGE ahead is replaced");
        due.is(3, x.image(), "how often is not restored");
    }

    private static void restore() {
        AnswerPass x = Passes.with(31, 10, 42, 20);
        x.drop(9, 1);
        x.puts(0, 8);
        x.hours(1);
        x.seed(5);
        Due.tells(x, 0, "11");
        Due.tells(x, 1, "3");
        Due.feeds(x, "c+c");
        x.tell(10);
        x.tell(21);
        x.image();
        x.become(0, 0);
        x.answers(1, 99);
        x.puts(0, 1);
        x.person(0, 0);
        x.drop(9, 0);
        x.drop(3, 1);
        x.hour(77);
        x.loose(2);
        x.text(0);
        x.untell(1);
        x.check();
        x.sheet(0, 8, 1);
        x.voice(1, 0, 0);
        x.personIs(9, 9);
        for (int twice = 0; twice < 2; twice++) {
            due.is(1, x.restore(), "restore tells HOUR");
            due.is(2, x.count(0), "PEOPLE");
            due.is(3, x.personIs(0, 0), "KIND");
            due.is(1, x.personIs(0, 1), "m");
            due.is(9, x.personIs(0, 3), "AT");
            due.is(1, x.personIs(0, 4), "LOST");
            due.is(20, x.personIs(1, 2), "SURE");
            due.is(1 << 9, x.count(1), "DROPS");
            due.is(5, x.count(7), "z");
            due.is(11, x.law(0, 0, 0, 0), "the TEXT of CLEAR");
            due.is(3, x.law(1, 0, 0, 0), "the TEXT of PACE");
            due.is(3, x.count(4), "THE TAPE");
            due.is(2, x.count(5), "numbers that wait");
            due.is(2, x.check(), "which they are");
            due.is(1, x.text(0), "the bytes of THE TAPE");
            due.is(8, x.law(0, 4, 0, 0), "c+c");
        }
        due.is(1, x.judge(0) + 1, "SHEETS stay");
        due.is(3, x.count(6), "THE TRACE stays");
        due.is(1, x.told(1), "what told() tells stays");
    }

    private static void tell() {
        AnswerPass x = new AnswerPass();
        for (int i = 1; i <= 24; i++) {
            due.is(i, x.tell(-i), "tell");
        }
        due.is(Due.FULL, x.tell(0), "24 wait");
        due.is(24, x.count(5), "24 wait still");
    }

    private static void check() {
        AnswerPass x = Passes.with(0, 10, 0, 20);
        due.is(0, x.check(), "none waits");
        x.tell(10);
        due.is(0, x.check(), "the first is so");
        x.tell(10);
        x.tell(20);
        due.is(0, x.check(), "both are so");
        due.is(0, x.count(5), "none waits then");
        x.tell(10);
        x.tell(21);
        x.tell(30);
        due.is(2, x.check(), "place 1 isn't so");
        due.is(0, x.count(5), "none waits then, either");
        x.tell(11);
        due.is(1, x.check(), "place 0 isn't so");
        x.tell(10);
        x.tell(20);
        x.tell(0);
        due.is(3, x.check(), "nobody for place 2");
    }

    private static void count() {
        AnswerPass x = Passes.with(0, 10, 0, 20, 0, 30);
        x.puts(0, 15);
        x.puts(2, 15);
        x.drop(6, 1);
        x.hour(300);
        x.feed(0, 5);
        x.tell(1);
        x.voice(0, 2, 0);
        x.seed(-9);
        long[] counts = {3, 1 << 6, 300, 5, 5, 1, 3, -9};
        for (int what = 0; what < counts.length; what++) {
            due.is(counts[what], x.count(what), "count(" + what + ")");
        }
        due.is(Due.BEYOND, x.count(8), "count(8)");
        due.is(Due.BEYOND, x.count(-1), "count(-1)");
    }

    private static void told() {
        AnswerPass x = Passes.with(0, 0);
        x.count(9);
        x.body(0);
        x.body(0);
        x.hour(9999);
        x.hours(1);
        for (int i = 0; i < 27; i++) {
            x.tell(0);
        }
        x.as(0, 1);
        x.as(0, 2);
        x.voice(0, 3, 0);
        long[] told = {0, 1, 2, 1, 3, 2, 1};
        for (int k = 1; k < told.length; k++) {
            due.is(told[k], x.told(k), "told(" + k + ")");
        }
        due.is(Due.BEYOND, x.told(0), "told(0)");
        due.is(Due.BEYOND, x.told(7), "told(7)");
        due.is(3, x.told(1), "both are counted, too");
    }
}
