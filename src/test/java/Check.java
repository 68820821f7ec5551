/** What the tests share: answers that are due, exceptions by their exact class, and calls that must change nothing. */
final class Check {
    static final String NOTHING = "nothing";
    static final String INDEX = "IndexOutOfBoundsException";
    static final String ARGUMENT = "IllegalArgumentException";
    static final String STATE = "IllegalStateException";

    private static final int SHOWN = 400;
    private static final int MOST_TOLD = 100;

    private static int looked = 0;
    private static int wrong = 0;

    private Check() {
    }

    interface Call {
        void run();
    }

    static void due(String what, long got, long want) {
        looked++;
        if (got != want) {
            fail(what + " answered " + got + ", due is " + want);
        }
    }

    static void due(String what, boolean got, boolean want) {
        due(what, got ? 1 : 0, want ? 1 : 0);
    }

    /** The exact class is asked for: an exception that the machine throws may be a subclass of the one that is due. */
    static String thrownBy(Call call) {
        try {
            call.run();
            return NOTHING;
        } catch (RuntimeException e) {
            return e.getClass().getSimpleName();
        }
    }

    static void same(String what, String got, String want) {
        looked++;
        if (!got.equals(want)) {
            int from = Math.max(0, parting(got, want) - SHOWN / 2);
            fail(what + ": " + shown(got, from) + ", due is " + shown(want, from));
        }
    }

    private static int parting(String got, String want) {
        int i = 0;
        while (i < got.length() && i < want.length() && got.charAt(i) == want.charAt(i)) {
            i++;
        }
        return i;
    }

    /** A life's answers are long: only what is near the first difference is shown of them. */
    private static String shown(String text, int from) {
        return text.length() <= SHOWN ? text : text.substring(from, Math.min(text.length(), from + SHOWN));
    }

    /** The call throws what is due and leaves all that can be read as it was. */
    static void refused(PegBox x, String what, Call call, String want) {
        String before = all(x);
        same(what + " throws", thrownBy(call), want);
        same(what + " leaves", all(x), before);
    }

    static void taken(String what, Call call) {
        same(what + " throws", thrownBy(call), NOTHING);
    }

    /** Nine readings. */
    static String sums(PegBox x) {
        return "day " + x.day() + " price " + x.finalPrice() + " held " + x.held() + " paid " + x.paid() + " returned "
                + x.returned() + " setOff " + x.setOff() + " owed " + x.owed() + " due " + x.due() + " outstanding "
                + x.outstanding();
    }

    /** All that can be read of an object, in 17 readings and one for each claim. */
    static String all(PegBox x) {
        StringBuilder text = new StringBuilder(sums(x)).append(" dueOf");
        for (int kind = 0; kind < 3; kind++) {
            text.append(' ').append(x.dueOf(kind));
        }
        int claims = x.claims();
        text.append(" claims ").append(claims).append(" settledAt");
        for (int claim = 0; claim < claims; claim++) {
            text.append(' ').append(x.settledAt(claim));
        }
        text.append(" isMet");
        for (int year = 0; year < 4; year++) {
            text.append(' ').append(x.isMet(year));
        }
        return text.toString();
    }

    static void fail(String what) {
        wrong++;
        if (wrong <= MOST_TOLD) {
            System.out.println(what);
        }
    }

    static void end(String name) {
        System.out.println(name + ": " + looked + " looked at, " + wrong + " wrong");
        if (wrong != 0 || looked == 0) {
            System.exit(1);
        }
    }
}
