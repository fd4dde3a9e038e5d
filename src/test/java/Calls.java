/** The calls of AnswerPass by their names. */
final class Calls {
    private Calls() {
    }

    static int call(AnswerPass x, String name, long[] a) {
        int[] i = new int[5];
        for (int j = 0; j < a.length; j++) {
            i[j] = (int) a[j];
        }
        return switch (name) {
            case "person" -> x.person(i[0], i[1]);
            case "personIs" -> x.personIs(i[0], i[1]);
            case "become" -> x.become(i[0], i[1]);
            case "as" -> x.as(i[0], i[1]);
            case "answers" -> x.answers(i[0], i[1]);
            case "puts" -> x.puts(i[0], i[1]);
            case "drop" -> x.drop(i[0], i[1]);
            case "feed" -> x.feed(a[0], i[1]);
            case "text" -> x.text(i[0]);
            case "untell" -> x.untell(i[0]);
            case "law" -> x.law(i[0], i[1], i[2], i[3]);
            case "hours" -> x.hours(i[0]);
            case "loose" -> x.loose(i[0]);
            case "hour" -> x.hour(i[0]);
            case "seed" -> x.seed(i[0]);
            case "then" -> x.then(i[0], i[1], i[2]);
            case "soonest" -> x.soonest(i[0], i[1]);
            case "least" -> x.least(i[0], i[1], i[2]);
            case "fills" -> x.fills(i[0], i[1], i[2], i[3]);
            case "withWhom" -> x.withWhom(i[0], i[1]);
            case "odds" -> x.odds(i[0], i[1], i[2], i[3]);
            case "fits" -> x.fits(i[0], i[1], i[2]);
            case "voice" -> x.voice(i[0], i[1], i[2]);
            case "body" -> x.body(i[0]);
            case "sheet" -> x.sheet(i[0], i[1], i[2]);
            case "put" -> x.put(i[0], i[1], i[2]);
            case "move" -> x.move(i[0], i[1], i[2], i[3], i[4]);
            case "sures" -> x.sures(i[0]);
            case "judge" -> x.judge(i[0]);
            case "image" -> x.image();
            case "restore" -> x.restore();
            case "tell" -> x.tell(i[0]);
            case "check" -> x.check();
            case "count" -> x.count(i[0]);
            case "told" -> x.told(i[0]);
            default -> throw new IllegalArgumentException(name);
        };
    }
}
