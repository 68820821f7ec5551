/**
 * The "Throws" lines, promises 2 to 14: each state that refuses a call, up to the last state that takes it; and, where
 * several exceptions apply, the one that is named first. That such calls change nothing, Twin looks at each time.
 */
public final class RefusedTest {
    private static final int M = Boxes.M;

    public static void main(String[] args) {
        termsWhenClosed();
        termsOutOfRangeWhenClosed();
        noSuchTermWhenClosed();
        noSuchTermOutOfRange();
        closingTwice();
        advancing();
        daysOutOfRange();
        claiming();
        claimingOutOfRange();
        claimingNoSuchKind();
        offering();
        offeringTwoWrongs();
        agreeing();
        deciding();
        decidingTwoWrongs();
        reporting();
        reportingOutOfRange();
        speedingUp();
        asking();
        Check.end("RefusedTest");
    }

    private static final Twin.Maker[] CLOSED = {Boxes::closed, Boxes::claimed, Boxes::late, Boxes::onDay4000,
        Boxes::twenty, Boxes::fourTold, Boxes::spedUp};

    private static void termsWhenClosed() {
        for (Twin.Maker closed : CLOSED) {
            Twin.refused("2: closed", closed, x -> x.setPrice(1, 2, 3), Check.STATE);
            for (int i = 0; i < 4; i++) {
                int part = i;
                Twin.refused("3: closed", closed, x -> x.setPart(part, 1, 2), Check.STATE);
                Twin.refused("3: closed, later", closed, x -> x.setPart(part, M, 2000), Check.STATE);
                Twin.refused("5: closed", closed, x -> x.setYear(part, 0, 1), Check.STATE);
                Twin.refused("5: closed, more", closed, x -> x.setYear(part, M, M), Check.STATE);
            }
            for (int i = 0; i < 3; i++) {
                int kind = i;
                Twin.refused("4: closed", closed, x -> x.setKind(kind, 0, 0, true, M, 2000), Check.STATE);
                Twin.refused("4: closed, less", closed, x -> x.setKind(kind, M, M, false, 0, 0), Check.STATE);
            }
            Twin.refused("6: closed, carried", closed, x -> x.setCarry(true), Check.STATE);
            Twin.refused("6: closed, not carried", closed, x -> x.setCarry(false), Check.STATE);
        }
    }

    private static void termsOutOfRangeWhenClosed() {
        Twin.Maker closed = Boxes::closed;
        Twin.refused("2: price before closed", closed, x -> x.setPrice(-1, 0, 0), Check.ARGUMENT);
        Twin.refused("2: peg before closed", closed, x -> x.setPrice(0, M + 1, 0), Check.ARGUMENT);
        Twin.refused("2: collar before closed", closed, x -> x.setPrice(0, 0, -1), Check.ARGUMENT);
        Twin.refused("3: amount before closed", closed, x -> x.setPart(0, -1, 1), Check.ARGUMENT);
        Twin.refused("3: day before closed", closed, x -> x.setPart(0, 0, 0), Check.ARGUMENT);
        Twin.refused("4: least before closed", closed, x -> x.setKind(0, -1, 0, true, 0, 0), Check.ARGUMENT);
        Twin.refused("4: basket before closed", closed, x -> x.setKind(0, 0, -1, true, 0, 0), Check.ARGUMENT);
        Twin.refused("4: cap before closed", closed, x -> x.setKind(0, 0, 0, true, -1, 0), Check.ARGUMENT);
        Twin.refused("4: last day before closed", closed, x -> x.setKind(0, 0, 0, true, 0, -1), Check.ARGUMENT);
        Twin.refused("5: target before closed", closed, x -> x.setYear(0, -1, 0), Check.ARGUMENT);
        Twin.refused("5: amount before closed", closed, x -> x.setYear(0, 0, -1), Check.ARGUMENT);
    }

    private static void noSuchTermWhenClosed() {
        for (int way = 0; way < 2; way++) {
            boolean below = way == 0;
            Twin.refused("3: part before closed", Boxes::closed, x -> x.setPart(below ? -1 : 4, 0, 1), Check.INDEX);
            Twin.refused("4: kind before closed", Boxes::closed,
                    x -> x.setKind(below ? -1 : 3, 0, 0, true, 0, 0), Check.INDEX);
            Twin.refused("5: year before closed", Boxes::closed, x -> x.setYear(below ? -1 : 4, 0, 0), Check.INDEX);
            Twin.refused("3: all wrong, closed", Boxes::closed, x -> x.setPart(below ? -1 : 4, -1, 0), Check.INDEX);
            Twin.refused("4: all wrong, closed", Boxes::closed,
                    x -> x.setKind(below ? -1 : 3, -1, -1, true, -1, -1), Check.INDEX);
            Twin.refused("5: all wrong, closed", Boxes::closed, x -> x.setYear(below ? -1 : 4, -1, -1), Check.INDEX);
        }
    }

    private static void noSuchTermOutOfRange() {
        for (int way = 0; way < 2; way++) {
            int part = way == 0 ? -1 : 4;
            int kind = way == 0 ? -1 : 3;
            Twin.refused("3: part before amount", Boxes::terms, x -> x.setPart(part, M + 1, 1), Check.INDEX);
            Twin.refused("3: part before day", Boxes::terms, x -> x.setPart(part, 0, 2001), Check.INDEX);
            Twin.refused("4: kind before least", Boxes::terms, x -> x.setKind(kind, M + 1, 0, true, 0, 0), Check.INDEX);
            Twin.refused("4: kind before basket", Boxes::terms,
                    x -> x.setKind(kind, 0, M + 1, true, 0, 0), Check.INDEX);
            Twin.refused("4: kind before cap", Boxes::terms,
                    x -> x.setKind(kind, 0, 0, true, 10 * M + 1, 0), Check.INDEX);
            Twin.refused("4: kind before last day", Boxes::terms,
                    x -> x.setKind(kind, 0, 0, true, 0, 2001), Check.INDEX);
            Twin.refused("5: year before target", Boxes::terms, x -> x.setYear(part, M + 1, 0), Check.INDEX);
            Twin.refused("5: year before amount", Boxes::terms, x -> x.setYear(part, 0, M + 1), Check.INDEX);
        }
    }

    private static void closingTwice() {
        for (Twin.Maker closed : CLOSED) {
            Twin.refused("7: closed", closed, x -> x.close(1, 2, 3), Check.STATE);
        }
        Twin.refused("7: cash before closed", Boxes::closed, x -> x.close(-1, 0, 0), Check.ARGUMENT);
        Twin.refused("7: debt before closed", Boxes::closed, x -> x.close(0, M + 1, 0), Check.ARGUMENT);
        Twin.refused("7: capital before closed", Boxes::closed, x -> x.close(0, 0, -M - 1), Check.ARGUMENT);
    }

    private static PegBox onDay(int day) {
        PegBox x = Boxes.claimed();
        int left = day;
        while (left > 0) {
            x.advance(Math.min(left, 400));
            left -= Math.min(left, 400);
        }
        return x;
    }

    private static void advancing() {
        Twin.refused("8: not closed", PegBox::new, x -> x.advance(1), Check.STATE);
        Twin.refused("8: not closed, with terms", Boxes::terms, x -> x.advance(400), Check.STATE);
        Check.due("8: 3600 and 400 days", onDay(3600).advance(400), 4000);
        Twin.refused("8: 3601 and 400 days", () -> onDay(3601), x -> x.advance(400), Check.STATE);
        Check.due("8: 3601 and 399 days", onDay(3601).advance(399), 4000);
        Check.due("8: 3999 and 1 day", onDay(3999).advance(1), 4000);
        Twin.refused("8: 3999 and 2 days", () -> onDay(3999), x -> x.advance(2), Check.STATE);
        Twin.refused("8: 4000 and 1 day", Boxes::onDay4000, x -> x.advance(1), Check.STATE);
        Twin.refused("8: 4000 and 400 days", Boxes::onDay4000, x -> x.advance(400), Check.STATE);
    }

    private static void daysOutOfRange() {
        for (int days : new int[] {0, 401, -1, Integer.MIN_VALUE, Integer.MAX_VALUE}) {
            Twin.refused("8: days before not closed", Boxes::terms, x -> x.advance(days), Check.ARGUMENT);
            Twin.refused("8: days before above 4000", Boxes::onDay4000, x -> x.advance(days), Check.ARGUMENT);
        }
    }

    private static void claiming() {
        Twin.refused("9: not closed", PegBox::new, x -> x.claim(0, 1), Check.STATE);
        Twin.refused("9: not closed, with terms", Boxes::terms, x -> x.claim(1, 9), Check.STATE);
        int[] lastDays = {4, 6, 2};
        for (int kind = 0; kind < 3; kind++) {
            int k = kind;
            int last = lastDays[kind];
            Check.due("9: on the last day", onDay(last).claim(kind, 1), 4);
            Twin.refused("9: on the day after the last", () -> onDay(last + 1), x -> x.claim(k, 1), Check.STATE);
            Twin.refused("9: on the day 4000", Boxes::onDay4000, x -> x.claim(k, 1), Check.STATE);
            Check.due("9: with 19 claims", nineteen().claim(kind, 1), 19);
            Twin.refused("9: with 20 claims", Boxes::twenty, x -> x.claim(k, 1), Check.STATE);
        }
    }

    private static PegBox nineteen() {
        PegBox x = Boxes.closed();
        for (int claim = 0; claim < 19; claim++) {
            x.claim(claim % 3, 1 + claim);
        }
        return x;
    }

    private static void claimingOutOfRange() {
        for (int amount : new int[] {0, M + 1}) {
            Twin.refused("9: amount before not closed", Boxes::terms, x -> x.claim(0, amount), Check.ARGUMENT);
            Twin.refused("9: amount before the last day", Boxes::late, x -> x.claim(0, amount), Check.ARGUMENT);
            Twin.refused("9: amount before 20 claims", Boxes::twenty, x -> x.claim(0, amount), Check.ARGUMENT);
        }
    }

    private static void claimingNoSuchKind() {
        for (int kind : new int[] {-1, 3}) {
            Twin.refused("9: kind before amount", Boxes::claimed, x -> x.claim(kind, 0), Check.INDEX);
            Twin.refused("9: kind before not closed", Boxes::terms, x -> x.claim(kind, 1), Check.INDEX);
            Twin.refused("9: kind before the last day", Boxes::late, x -> x.claim(kind, 1), Check.INDEX);
            Twin.refused("9: kind before 20 claims", Boxes::twenty, x -> x.claim(kind, 1), Check.INDEX);
            Twin.refused("9: kind before all else", Boxes::terms, x -> x.claim(kind, M + 1), Check.INDEX);
        }
    }

    private static void offering() {
        Twin.refused("10: no claim, not closed", Boxes::terms, x -> x.offer(0, 0), Check.INDEX);
        Twin.refused("10: no claim yet", Boxes::closed, x -> x.offer(0, 0), Check.INDEX);
        Twin.refused("10: settled by the expert", Boxes::claimed, x -> x.offer(2, 20), Check.STATE);
        Twin.refused("10: settled by agreeing", Boxes::claimed, x -> x.offer(3, 25), Check.STATE);
        Check.due("10: open after the last day", Boxes.late().offer(0, 60), 40);
        Check.due("10: open on the day 4000", Boxes.onDay4000().offer(1, 1), PegBox.NONE);
    }

    private static void offeringTwoWrongs() {
        for (int amount : new int[] {-1, 61, Integer.MAX_VALUE}) {
            Twin.refused("10: claim before amount", Boxes::claimed, x -> x.offer(4, amount), Check.INDEX);
            Twin.refused("10: claim before amount", Boxes::claimed, x -> x.offer(-1, amount), Check.INDEX);
            Twin.refused("10: settled before amount", Boxes::claimed, x -> x.offer(2, amount), Check.STATE);
            Twin.refused("10: agreed on before amount", Boxes::claimed, x -> x.offer(3, amount), Check.STATE);
        }
    }

    private static void agreeing() {
        Twin.refused("11: no claim, not closed", Boxes::terms, x -> x.agree(0), Check.INDEX);
        Twin.refused("11: no claim yet", Boxes::closed, x -> x.agree(0), Check.INDEX);
        Twin.refused("11: no offer", Boxes::claimed, x -> x.agree(1), Check.STATE);
        Twin.refused("11: settled by the expert", Boxes::claimed, x -> x.agree(2), Check.STATE);
        Twin.refused("11: settled by the expert, with an offer", RefusedTest::decidedAboveTheOffer, x -> x.agree(0),
                Check.STATE);
        Twin.refused("11: settled by agreeing", Boxes::claimed, x -> x.agree(3), Check.STATE);
        Check.due("11: on the day 4000", Boxes.onDay4000().agree(0), 0);
    }

    private static PegBox decidedAboveTheOffer() {
        PegBox x = Boxes.claimed();
        x.decide(0, 55);
        return x;
    }

    private static void deciding() {
        Twin.refused("12: no claim, not closed", Boxes::terms, x -> x.decide(0, 0), Check.INDEX);
        Twin.refused("12: no claim yet", Boxes::closed, x -> x.decide(0, 0), Check.INDEX);
        Twin.refused("12: settled by the expert", Boxes::claimed, x -> x.decide(2, 20), Check.STATE);
        Twin.refused("12: settled by agreeing", Boxes::claimed, x -> x.decide(3, 25), Check.STATE);
        Check.due("12: on the day 4000", Boxes.onDay4000().decide(0, 60), 10);
    }

    private static void decidingTwoWrongs() {
        for (int amount : new int[] {-1, 61, Integer.MAX_VALUE}) {
            Twin.refused("12: claim before amount", Boxes::claimed, x -> x.decide(4, amount), Check.INDEX);
            Twin.refused("12: claim before amount", Boxes::claimed, x -> x.decide(-1, amount), Check.INDEX);
            Twin.refused("12: settled before amount", Boxes::claimed, x -> x.decide(2, amount), Check.STATE);
            Twin.refused("12: agreed on before amount", Boxes::claimed, x -> x.decide(3, amount), Check.STATE);
        }
    }

    private static void reporting() {
        Twin.refused("13: not closed", Boxes::terms, x -> x.report(50), Check.STATE);
        Check.due("13: the first year", Boxes.closed().report(50), 70);
        PegBox three = Boxes.oneTold();
        three.report(20);
        three.report(10);
        Check.due("13: the fourth year", three.report(5), 6);
        Twin.refused("13: a fifth year", Boxes::fourTold, x -> x.report(5), Check.STATE);
        Twin.refused("13: sped up", Boxes::spedUp, x -> x.report(5), Check.STATE);
        Twin.refused("13: sped up with no year told", RefusedTest::spedUpAtOnce, x -> x.report(50), Check.STATE);
        Twin.refused("13: sped up after four years", RefusedTest::spedUpLast, x -> x.report(5), Check.STATE);
        Check.due("13: on the day 4000", Boxes.onDay4000().report(50), 70);
    }

    private static PegBox spedUpAtOnce() {
        PegBox x = Boxes.closed();
        x.speedUp();
        return x;
    }

    private static PegBox spedUpLast() {
        PegBox x = Boxes.fourTold();
        x.speedUp();
        return x;
    }

    private static void reportingOutOfRange() {
        for (int result : new int[] {-M - 1, M + 1}) {
            Twin.refused("13: result before not closed", Boxes::terms, x -> x.report(result), Check.ARGUMENT);
            Twin.refused("13: result before four years", Boxes::fourTold, x -> x.report(result), Check.ARGUMENT);
            Twin.refused("13: result before sped up", Boxes::spedUp, x -> x.report(result), Check.ARGUMENT);
        }
    }

    private static void speedingUp() {
        Twin.refused("14: not closed", PegBox::new, x -> x.speedUp(), Check.STATE);
        Twin.refused("14: not closed, with terms", Boxes::terms, x -> x.speedUp(), Check.STATE);
        Twin.refused("14: sped up", Boxes::spedUp, x -> x.speedUp(), Check.STATE);
        Twin.refused("14: sped up with no year told", RefusedTest::spedUpAtOnce, x -> x.speedUp(), Check.STATE);
        Twin.refused("14: sped up after four years", RefusedTest::spedUpLast, x -> x.speedUp(), Check.STATE);
        Check.due("14: on the day 4000", Boxes.onDay4000().speedUp(), 70 + 80 + 30 + 6);
    }

    /** The questions refuse wrong numbers in every state, and nothing else. */
    private static void asking() {
        Twin.Maker[] states = {PegBox::new, Boxes::terms, Boxes::closed, Boxes::claimed, Boxes::onDay4000,
            Boxes::spedUp};
        for (Twin.Maker state : states) {
            int claims = state.make().claims();
            Twin.refused("24: kind -1", state, x -> x.dueOf(-1), Check.INDEX);
            Twin.refused("24: kind 3", state, x -> x.dueOf(3), Check.INDEX);
            Twin.refused("26: claim -1", state, x -> x.settledAt(-1), Check.INDEX);
            Twin.refused("26: the first claim that is not there", state, x -> x.settledAt(claims), Check.INDEX);
            Twin.refused("27: year -1", state, x -> x.isMet(-1), Check.INDEX);
            Twin.refused("27: year 4", state, x -> x.isMet(4), Check.INDEX);
        }
    }
}
