/**
 * Two objects made alike, of which one meets a refused call. Terms, offers and the results so far can't be read, so
 * both then live on alike, and must answer alike, in ways that bring these to light.
 */
final class Twin {
    static final int WAYS = 3;

    private Twin() {
    }

    interface Maker {
        PegBox make();
    }

    interface Call {
        void on(PegBox x);
    }

    /** The call throws what is due, and changes nothing: neither what can be read nor what can't. */
    static void refused(String what, Maker maker, Call call, String want) {
        for (int way = 0; way < WAYS; way++) {
            PegBox with = maker.make();
            String before = Check.all(with);
            Check.same(what + ": throws", Check.thrownBy(() -> call.on(with)), want);
            Check.same(what + ": leaves what can be read", Check.all(with), before);
            String life = life(Calls.side(with), way);
            Check.same(what + ": leaves what can't be read", life, life(Calls.side(maker.make()), way));
        }
    }

    /** What some 320 calls at most answered. */
    static String life(Calls.Side x, int way) {
        StringBuilder text = new StringBuilder();
        tell(text, x, Calls.CLOSE, 1000, 10, new int[] {0, 6000, -6000}[way]);
        text.append(x.sums());
        if (way == 0) {
            offers(text, x);
            results(text, x, 55, 20, 29, 300);
            kinds(text, x);
            days(text, x, 5);
        } else if (way == 1) {
            agreeing(text, x);
            days(text, x, 1);
            results(text, x, -5, 200, 9, 3);
        } else {
            deciding(text, x);
            tell(text, x, Calls.SPEED_UP);
            kinds(text, x);
            days(text, x, 5);
        }
        tell(text, x, Calls.ADVANCE, 400);
        tell(text, x, Calls.REPORT, 1);
        tell(text, x, Calls.SPEED_UP);
        return text.append(x.all()).toString();
    }

    private static void tell(StringBuilder text, Calls.Side x, int call, int... a) {
        text.append(Calls.text(call, a)).append(x.answer(call, a)).append('\n');
    }

    private static void offers(StringBuilder text, Calls.Side x) {
        int claims = x.claims();
        for (int claim = 0; claim < claims; claim++) {
            tell(text, x, Calls.OFFER, claim, 1);
        }
    }

    private static void agreeing(StringBuilder text, Calls.Side x) {
        int claims = x.claims();
        for (int claim = 0; claim < claims; claim++) {
            tell(text, x, Calls.AGREE, claim);
        }
    }

    /** Each is settled at the first number that is allowed, so that its amount and its kind come to light. */
    private static void deciding(StringBuilder text, Calls.Side x) {
        int claims = x.claims();
        for (int claim = 0; claim < claims; claim++) {
            for (int amount : new int[] {151, 150, 60, 20 + claim, 5 + claim, 1, 0}) {
                tell(text, x, Calls.DECIDE, claim, amount);
            }
        }
        text.append(x.all());
    }

    private static void results(StringBuilder text, Calls.Side x, int... results) {
        for (int result : results) {
            tell(text, x, Calls.REPORT, result);
        }
    }

    /** Small sums for the least sums, then some that pass the baskets, and one that passes the caps. */
    private static void kinds(StringBuilder text, Calls.Side x) {
        for (int sum : new int[] {4, 9, 10, 40, 2000}) {
            for (int kind = 0; kind < 3; kind++) {
                tell(text, x, Calls.CLAIM, kind, 2000);
                tell(text, x, Calls.DECIDE, x.claims() - 1, sum);
            }
            text.append(x.sums());
        }
    }

    /** Day by day, with a small claim on each for the last days. */
    private static void days(StringBuilder text, Calls.Side x, int between) {
        for (int i = 0; i < 10; i++) {
            tell(text, x, Calls.ADVANCE, 1);
            tell(text, x, Calls.CLAIM, i % 3, 1);
            if (i % between == 0) {
                text.append(x.sums());
            }
        }
    }
}
