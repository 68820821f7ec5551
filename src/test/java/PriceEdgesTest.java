/** The sentences of the document that name an edge of the price, of the escrow at closing, and of freeing. */
public final class PriceEdgesTest {
    private static final int M = Boxes.M;

    public static void main(String[] args) {
        aboveTheCollar();
        belowZeroLessTheCollar();
        otherwiseZero();
        collarOfZero();
        notBelowZero();
        notBelowZeroByThePart();
        escrowMoreThanTheFinalPrice();
        escrowOfAllParts();
        escrowAgainstTheFinalPriceNotThePrice();
        whatIsNotHeldIsPaid();
        dayIsLater();
        daysPassedOver();
        daysOfSeveralParts();
        laterPartsOfWhichLessIsHeld();
        openClaimsAreKept();
        laterPartsAndOpenClaimsTogether();
        openUntilSettled();
        freedWhenSettled();
        returnedBeforeItIsFreed();
        heldAndPaidMakeThePrice();
        Check.end("PriceEdgesTest");
    }

    /** The final price at a price of 1000, a peg of 100 and a collar of 20. */
    private static int at(int capital) {
        return closedAt(1000, 100, 20, 0, 0, capital);
    }

    private static int closedAt(int price, int peg, int collar, int cash, int debt, int capital) {
        PegBox x = new PegBox();
        x.setPrice(price, peg, collar);
        int answer = x.close(cash, debt, capital);
        Check.due("16: the final price is what close answered", x.finalPrice(), answer);
        return answer;
    }

    private static void aboveTheCollar() {
        Check.due("7: at the collar less 1", at(119), 1000);
        Check.due("7: at the collar", at(120), 1000);
        Check.due("7: above the collar, the difference less the collar", at(121), 1001);
        Check.due("7: far above", at(M), 1000 + M - 120);
        Check.due("7: the furthest above", closedAt(0, -M, M - 1, 0, 0, M), M + 1);
    }

    private static void belowZeroLessTheCollar() {
        Check.due("7: at 0 less the collar, and 1", at(81), 1000);
        Check.due("7: at 0 less the collar", at(80), 1000);
        Check.due("7: below 0 less the collar, the difference and the collar", at(79), 999);
        Check.due("7: far below", closedAt(M, 0, 20, M, 0, -M), M + 20);
        Check.due("7: the furthest below", closedAt(M, M, M - 1, M, 0, -M), M - 1);
    }

    private static void otherwiseZero() {
        for (int capital = 80; capital <= 120; capital++) {
            Check.due("7: within the collar", at(capital), 1000);
        }
        Check.due("7: the widest collar, above", closedAt(5, 0, M, 0, 0, M), 5);
        Check.due("7: the widest collar, below", closedAt(5, 0, M, 0, 0, -M), 5);
    }

    private static void collarOfZero() {
        Check.due("7: a collar of 0, no difference", closedAt(5, 7, 0, 0, 0, 7), 5);
        Check.due("7: a collar of 0, 1 above", closedAt(5, 7, 0, 0, 0, 8), 6);
        Check.due("7: a collar of 0, 1 below", closedAt(5, 7, 0, 0, 0, 6), 4);
    }

    private static void notBelowZero() {
        Check.due("7: 1", closedAt(10, 0, 0, 5, 14, 0), 1);
        Check.due("7: 0", closedAt(10, 0, 0, 5, 15, 0), 0);
        Check.due("7: 1 below 0", closedAt(10, 0, 0, 5, 16, 0), 0);
        Check.due("7: the furthest below 0", closedAt(0, M, 0, 0, M, -M), 0);
    }

    private static void notBelowZeroByThePart() {
        Check.due("7: 1 by the part", closedAt(10, 0, 3, 0, 0, -12), 1);
        Check.due("7: 0 by the part", closedAt(10, 0, 3, 0, 0, -13), 0);
        Check.due("7: below 0 by the part", closedAt(10, 0, 3, 0, 0, -14), 0);
        Check.due("7: the part is added before it is looked at", closedAt(10, 0, 3, 0, 16, 10), 1);
    }

    /** Closed at the price with parts of these amounts, whose days are 10, 20, 30 and 40. */
    private static PegBox withParts(int price, int... amounts) {
        PegBox x = new PegBox();
        x.setPrice(price, 0, 0);
        for (int part = 0; part < amounts.length; part++) {
            x.setPart(part, amounts[part], 10 * (part + 1));
        }
        for (int kind = 0; kind < 3; kind++) {
            x.setKind(kind, 0, 0, true, kind == 2 ? 0 : M, 2000);
        }
        x.close(0, 0, 0);
        return x;
    }

    private static void escrowMoreThanTheFinalPrice() {
        Check.due("7: 1 less than the final price", withParts(100, 99).held(), 99);
        Check.due("7: the final price", withParts(100, 100).held(), 100);
        Check.due("7: 1 more than the final price", withParts(100, 101).held(), 100);
        Check.due("7: a final price of 0", withParts(0, 101).held(), 0);
        Check.due("7: no escrow", withParts(100, 0).held(), 0);
    }

    private static void escrowOfAllParts() {
        Check.due("7: together 1 less", withParts(100, 40, 30, 20, 9).held(), 99);
        Check.due("7: together the final price", withParts(100, 40, 30, 20, 10).held(), 100);
        Check.due("7: together 1 more", withParts(100, 40, 30, 20, 11).held(), 100);
        Check.due("7: the most of all parts", withParts(M, M, M, M, M).held(), M);
    }

    private static void escrowAgainstTheFinalPriceNotThePrice() {
        for (int debt = 19; debt <= 21; debt++) {
            PegBox x = new PegBox();
            x.setPrice(100, 0, 0);
            x.setPart(0, 80, 1);
            x.close(0, debt, 0);
            Check.due("7: the price less the debt", x.held(), Math.min(80, 100 - debt));
        }
        PegBox more = new PegBox();
        more.setPrice(100, 0, 0);
        more.setPart(0, 130, 1);
        more.close(30, 0, 0);
        Check.due("7: the price and the cash", more.held(), 130);
    }

    private static void whatIsNotHeldIsPaid() {
        Check.due("7: all but 99 is paid", withParts(100, 99).paid(), 1);
        Check.due("7: nothing is paid", withParts(100, 100).paid(), 0);
        Check.due("7: nothing below 0 is paid", withParts(100, 101).paid(), 0);
        Check.due("7: all is paid", withParts(100, 0).paid(), 100);
        Check.due("7: nothing of nothing", withParts(0, 5).paid(), 0);
    }

    private static void dayIsLater() {
        for (int part = 0; part < 4; part++) {
            PegBox x = new PegBox();
            x.setPrice(100, 0, 0);
            x.setPart(part, 60, 7);
            x.close(0, 0, 0);
            Check.due("8: on day 0", x.held(), 60);
            x.advance(6);
            Check.due("8: the day before", x.held(), 60);
            Check.due("8: nothing is paid yet", x.paid(), 40);
            x.advance(1);
            Check.due("8: when the day begins", x.held(), 0);
            Check.due("8: it is paid", x.paid(), 100);
            x.advance(1);
            Check.due("8: but once", x.paid(), 100);
        }
    }

    private static void daysPassedOver() {
        PegBox x = withParts(100, 40, 30, 20, 10);
        x.advance(31);
        Check.due("8: the days of three parts were passed", x.held(), 10);
        Check.due("8: and what is freed is paid", x.paid(), 90);
    }

    private static void daysOfSeveralParts() {
        PegBox x = new PegBox();
        x.setPrice(100, 0, 0);
        x.setPart(0, 10, 5);
        x.setPart(1, 20, 6);
        x.setPart(2, 30, 5);
        x.setPart(3, 40, 4);
        x.close(0, 0, 0);
        int[] held = {100, 100, 100, 100, 60, 20, 0};
        for (int day = 0; day < held.length; day++) {
            Check.due("8: held on day " + day, x.held(), held[day]);
            x.advance(1);
        }
    }

    private static void laterPartsOfWhichLessIsHeld() {
        int[] price = {59, 60, 61};
        int[] paid = {0, 0, 1};
        for (int i = 0; i < 3; i++) {
            PegBox x = withParts(price[i], 50, 60);
            Check.due("8: all of the price is held", x.held(), price[i]);
            x.advance(10);
            Check.due("8: as far as it is more than the later part", x.paid(), paid[i]);
            x.advance(10);
            Check.due("8: then all", x.paid(), price[i]);
        }
    }

    private static void openClaimsAreKept() {
        int[] amount = {99, 100, 101};
        int[] paid = {1, 0, 0};
        for (int kind = 0; kind < 3; kind++) {
            for (int i = 0; i < 3; i++) {
                PegBox x = withParts(100, 100);
                x.claim(kind, amount[i]);
                x.advance(10);
                Check.due("8: as far as it is more than the open claim", x.paid(), paid[i]);
                Check.due("8: the rest is held", x.held(), 100 - paid[i]);
            }
        }
    }

    private static void laterPartsAndOpenClaimsTogether() {
        int[] amount = {38, 39, 40, 41};
        int[] paid = {1, 0, 0, 0};
        for (int i = 0; i < 4; i++) {
            PegBox x = withParts(100, 60, 40);
            x.claim(0, amount[i]);
            x.claim(1, 21);
            x.advance(10);
            Check.due("8: as far as it is more than both, together", x.paid(), paid[i]);
            x.advance(10);
            Check.due("8: the claims alone", x.held(), amount[i] + 21);
        }
    }

    private static void openUntilSettled() {
        PegBox x = withParts(100, 100);
        x.claim(0, 30);
        x.offer(0, 0);
        x.advance(10);
        Check.due("8: an offer does not lessen what is kept", x.held(), 30);
        x.advance(400);
        Check.due("8: nor do days", x.held(), 30);
        Check.due("11: settled at 0", x.agree(0), 0);
        Check.due("11: then it is freed", x.held(), 0);
        Check.due("11: and paid", x.paid(), 100);
    }

    private static void freedWhenSettled() {
        PegBox before = withParts(100, 100);
        before.claim(0, 30);
        before.advance(9);
        before.decide(0, 0);
        Check.due("12: not before the part's day", before.held(), 100);
        before.advance(1);
        Check.due("12: but when it begins", before.held(), 0);

        PegBox on = withParts(100, 100);
        on.claim(0, 30);
        on.claim(0, 20);
        on.advance(10);
        on.decide(0, 0);
        Check.due("12: the other open claim is kept", on.held(), 20);
        Check.due("12: the rest is paid", on.paid(), 80);
    }

    private static void returnedBeforeItIsFreed() {
        PegBox x = withParts(100, 100);
        x.claim(0, 30);
        x.advance(10);
        Check.due("8: the claim is kept", x.held(), 30);
        Check.due("12: all of it is returned", x.decide(0, 30), 30);
        Check.due("12: nothing is left to be freed", x.paid(), 70);

        PegBox y = withParts(100, 100);
        y.claim(0, 30);
        y.advance(10);
        Check.due("12: part of it is returned", y.decide(0, 29), 29);
        Check.due("12: the rest is freed", y.paid(), 71);
    }

    /** But for the earn-out, what was paid, what is held and what was returned make the price at all times. */
    private static void heldAndPaidMakeThePrice() {
        PegBox x = withParts(100, 40, 30, 20, 5);
        makesThePrice(x);
        x.claim(0, 25);
        x.claim(1, 60);
        for (int i = 0; i < 6; i++) {
            x.advance(7);
            makesThePrice(x);
            if (i == 1) {
                x.decide(0, 25);
                makesThePrice(x);
            }
            if (i == 4) {
                x.decide(1, 60);
                makesThePrice(x);
            }
        }
        Check.due("17: nothing is held in the end", x.held(), 0);
        Check.due("19: both were returned", x.returned(), 85);
    }

    private static void makesThePrice(PegBox x) {
        Check.due("17 to 19: they make the price", x.held() + x.paid() + x.returned(), x.finalPrice());
    }
}
