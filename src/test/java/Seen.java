/** All that can be seen of an object, read by calls that use it up: some 300 of its 512. */
final class Seen {
    private static final int[][] LAW_POINTS = {{0, 0, 0}, {5, 3, 1}, {17, 40, 6}};

    private final AnswerPass x;
    private final StringBuilder seen = new StringBuilder();

    private Seen(AnswerPass x) {
        this.x = x;
    }

    static String of(AnswerPass x) {
        Seen s = new Seen(x);
        s.trace();
        s.state();
        for (int sheet = 0; sheet < 4; sheet++) {
            s.sheet(sheet);
        }
        s.saw("restore", x.restore());
        s.state();
        s.saw("image", x.image());
        return s.seen.toString();
    }

    private void saw(String what, int v) {
        seen.append(what).append(' ').append(v).append('\n');
    }

    private void trace() {
        int bodies = x.count(6);
        saw("bodies", bodies);
        for (int i = 0; i < bodies; i++) {
            saw("body " + i, x.body(i));
        }
    }

    /** All that an IMAGE keeps. */
    private void state() {
        for (int what : new int[] {0, 1, 2, 3, 4, 5, 7}) {
            saw("count " + what, x.count(what));
        }
        for (int person = 0; person < x.count(0); person++) {
            for (int what = 0; what < 8; what++) {
                saw("person " + person + " is " + what, x.personIs(person, what));
            }
        }
        laws();
        saw("check", x.check());
        saw("text", x.text(0));
        laws();
    }

    private void laws() {
        for (int use = 0; use < 2; use++) {
            for (int[] p : LAW_POINTS) {
                saw("law " + use, x.law(use, p[0], p[1], p[2]));
            }
        }
    }

    /** How many numbers there are, of which bits, and those from 0 to 99; the others look alike. */
    private void sheet(int sheet) {
        if (x.judge(sheet) == Due.NONE) {
            saw("missing is sheet", sheet);
            return;
        }
        int size = 0;
        while (size < 24 && x.move(sheet, 0, sheet, 0, size + 1) == size + 1) {
            size++;
        }
        saw("numbers of " + sheet, size);
        for (int i = 0; i < size; i++) {
            x.move(sheet, i, sheet, 0, 1);
            saw("number " + i + " of " + sheet, first(sheet));
        }
        for (int bits = 8; bits <= 16 && size > 0; bits += 8) {
            x.put(sheet, 0, (1 << bits) + 5);
            saw("beyond " + bits + " of " + sheet, first(sheet));
        }
    }

    private int first(int sheet) {
        if (x.count(0) == 0) {
            x.person(0, 0);
        }
        return x.sures(sheet) == 0 ? -1 : x.personIs(0, 2);
    }
}
