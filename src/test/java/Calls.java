import java.util.Arrays;

/** The calls that can change something, by number: a run of them is told as numbers, and made on PegBox or on Model. */
final class Calls {
    static final int SET_PRICE = 0;
    static final int SET_PART = 1;
    /** Its arguments in the order kind, least, basket, cap, last day, 1 for a whole basket. */
    static final int SET_KIND = 2;
    static final int SET_YEAR = 3;
    static final int SET_CARRY = 4;
    static final int CLOSE = 5;
    static final int ADVANCE = 6;
    static final int CLAIM = 7;
    static final int OFFER = 8;
    static final int AGREE = 9;
    static final int DECIDE = 10;
    static final int REPORT = 11;
    static final int SPEED_UP = 12;
    static final int COUNT = 13;

    private static final String[] NAMES = {"setPrice", "setPart", "setKind", "setYear", "setCarry", "close", "advance",
        "claim", "offer", "agree", "decide", "report", "speedUp"};
    private static final int MOST_ARGUMENTS = 6;

    private Calls() {
    }

    /** A settlement that takes calls by number. */
    interface Side {
        /** "=" and what is answered (0 by a term), or the name of the exception. */
        String answer(int call, int... a);

        int claims();

        /** Nine readings. */
        String sums();

        /** 17 readings and one for each claim, of which there are at most 20. */
        String all();
    }

    static String text(int call, int... a) {
        return NAMES[call] + Arrays.toString(a);
    }

    static Side side(PegBox box) {
        return new Side() {
            @Override
            public String answer(int call, int... a) {
                try {
                    return "=" + of(box, call, Arrays.copyOf(a, MOST_ARGUMENTS));
                } catch (RuntimeException e) {
                    return e.getClass().getSimpleName();
                }
            }

            @Override
            public int claims() {
                return box.claims();
            }

            @Override
            public String sums() {
                return Check.sums(box);
            }

            @Override
            public String all() {
                return Check.all(box);
            }
        };
    }

    static Side side(Model model) {
        return new Side() {
            @Override
            public String answer(int call, int... a) {
                try {
                    return "=" + model.call(call, Arrays.copyOf(a, MOST_ARGUMENTS));
                } catch (Model.Refused e) {
                    return e.name;
                }
            }

            @Override
            public int claims() {
                return model.claims.size();
            }

            @Override
            public String sums() {
                return model.sums();
            }

            @Override
            public String all() {
                return model.all();
            }
        };
    }

    private static long of(PegBox box, int call, int[] a) {
        switch (call) {
            case SET_PRICE: box.setPrice(a[0], a[1], a[2]); return 0;
            case SET_PART: box.setPart(a[0], a[1], a[2]); return 0;
            case SET_KIND: box.setKind(a[0], a[1], a[2], (a[5] & 1) == 1, a[3], a[4]); return 0;
            case SET_YEAR: box.setYear(a[0], a[1], a[2]); return 0;
            case SET_CARRY: box.setCarry((a[0] & 1) == 1); return 0;
            case CLOSE: return box.close(a[0], a[1], a[2]);
            case ADVANCE: return box.advance(a[0]);
            case CLAIM: return box.claim(a[0], a[1]);
            case OFFER: return box.offer(a[0], a[1]);
            case AGREE: return box.agree(a[0]);
            case DECIDE: return box.decide(a[0], a[1]);
            case REPORT: return box.report(a[0]);
            default: return box.speedUp();
        }
    }
}
