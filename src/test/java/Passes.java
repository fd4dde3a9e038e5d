/** Passes that tests begin with. */
final class Passes {
    private Passes() {
    }

    /** PEOPLE by pairs of km and SURE. */
    static AnswerPass with(int... kmAndSure) {
        AnswerPass x = new AnswerPass();
        for (int i = 0; i < kmAndSure.length; i += 2) {
            x.person(kmAndSure[i], kmAndSure[i + 1]);
        }
        return x;
    }

    static void lays(AnswerPass x, int sheet, int bits, int... numbers) {
        x.sheet(sheet, bits, numbers.length);
        for (int i = 0; i < numbers.length; i++) {
            x.put(sheet, i, numbers[i]);
        }
    }

    /**
     * Three PEOPLE (MAN, a LIAR who is LOST, HONEYMOON), DROPS, both TEXTS, THE TAPE, numbers that wait, an IMAGE of
     * other things, THE TRACE, SHEETS 0 and 2 of 8 bits, 1 of 16, 3 missing, ERRORS: whatever an act may change is there.
     */
    static AnswerPass rich() {
        AnswerPass x = with(5, 40, 34, 50, 41, 60);
        x.drop(2, 1);
        x.puts(0, 3);
        x.hours(1);
        Due.tells(x, 0, "c+1");
        Due.tells(x, 1, "m%3");
        Due.feeds(x, "h-2");
        x.tell(40);
        x.image();
        x.answers(2, 61);
        x.puts(0, 5);
        x.drop(9, 1);
        x.hour(77);
        x.seed(5);
        Due.tells(x, 0, "c*2");
        Due.feeds(x, "c+7");
        x.tell(50);
        x.tell(61);
        lays(x, 0, 8, 5, 2, 9);
        lays(x, 1, 16, 77, 66);
        lays(x, 2, 8);
        x.voice(2, 2, 7);
        x.told(9);
        x.body(99);
        return x;
    }
}
