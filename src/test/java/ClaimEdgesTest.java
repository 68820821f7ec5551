/** The sentences of the document that name an edge of claims: offers, the expert, what is due, and what is returned. */
public final class ClaimEdgesTest {
    private static final int M = Boxes.M;

    public static void main(String[] args) {
        offerFromZeroToTheClaim();
        anotherOfferLater();
        agreedAtTheLastOffer();
        expertFromTheOffer();
        expertFromTheLastOffer();
        expertWithoutAnOffer();
        expertAtTheClaim();
        smallestClaim();
        openUntilThen();
        settledAtZeroIsNotOpen();
        twentyClaims();
        leastSum();
        leastSumOfWhatItWasSettledAt();
        leastSumsOfKinds();
        leastSumBeforeTheBasket();
        wholeBasket();
        wholeBasketOfZero();
        basketThatIsNotWhole();
        basketOfZero();
        cap();
        capAfterTheBasket();
        capOfZero();
        openClaimsAreNotDue();
        kindsAreApart();
        asMuchAsPossible();
        nothingHeld();
        nothingOutstanding();
        noClaimIsPaidTwice();
        outstandingIsReckonedTogether();
        Check.end("ClaimEdgesTest");
    }

    /** 500 are held until the day 100; the kind 0 has no limits. */
    private static PegBox plain() {
        PegBox x = new PegBox();
        x.setPrice(500, 0, 0);
        x.setPart(0, 500, 100);
        x.setKind(0, 0, 0, true, 10 * M, 2000);
        x.close(0, 0, 0);
        return x;
    }

    private static PegBox withClaim(int amount, int... offers) {
        PegBox x = plain();
        x.claim(0, amount);
        for (int offer : offers) {
            x.offer(0, offer);
        }
        return x;
    }

    private static void offerFromZeroToTheClaim() {
        Check.due("10: 0", withClaim(60).offer(0, 0), PegBox.NONE);
        Check.due("10: the amount of the claim", withClaim(60).offer(0, 60), PegBox.NONE);
        Twin.refused("10: below 0", () -> withClaim(60), x -> x.offer(0, -1), Check.ARGUMENT);
        Twin.refused("10: above the claim", () -> withClaim(60), x -> x.offer(0, 61), Check.ARGUMENT);
    }

    private static void anotherOfferLater() {
        PegBox x = withClaim(60);
        int before = PegBox.NONE;
        for (int offer : new int[] {30, 31, 29, 29, 60, 0, 0, 60}) {
            Check.due("10: the offer before", x.offer(0, offer), before);
            before = offer;
        }
        Twin.refused("10: a later one below 0", () -> withClaim(60, 30), y -> y.offer(0, -1), Check.ARGUMENT);
        Twin.refused("10: a later one above the claim", () -> withClaim(60, 30), y -> y.offer(0, 61), Check.ARGUMENT);
    }

    private static void agreedAtTheLastOffer() {
        int[][] offers = {{0}, {60}, {30, 20}, {20, 30}, {60, 0}, {0, 60}};
        for (int[] o : offers) {
            PegBox x = withClaim(60, o);
            int last = o[o.length - 1];
            Check.due("11: returned", x.agree(0), last);
            Check.due("11: settled at the offer made last", x.settledAt(0), last);
        }
        Twin.refused("11: no offer", () -> withClaim(60), x -> x.agree(0), Check.STATE);
    }

    private static int decided(int amount, PegBox x) {
        x.decide(0, amount);
        return x.settledAt(0);
    }

    private static void expertFromTheOffer() {
        Check.due("12: at the offer", decided(25, withClaim(60, 25)), 25);
        Check.due("12: above the offer", decided(26, withClaim(60, 25)), 26);
        Twin.refused("12: below the offer", () -> withClaim(60, 25), x -> x.decide(0, 24), Check.ARGUMENT);
        Check.due("12: at an offer of 0", decided(0, withClaim(60, 0)), 0);
        Twin.refused("12: below an offer of 0", () -> withClaim(60, 0), x -> x.decide(0, -1), Check.ARGUMENT);
    }

    private static void expertFromTheLastOffer() {
        Check.due("12: a lower offer later", decided(20, withClaim(60, 50, 20)), 20);
        Twin.refused("12: below it", () -> withClaim(60, 50, 20), x -> x.decide(0, 19), Check.ARGUMENT);
        Check.due("12: a higher offer later", decided(50, withClaim(60, 20, 50)), 50);
        Twin.refused("12: below that", () -> withClaim(60, 20, 50), x -> x.decide(0, 49), Check.ARGUMENT);
    }

    private static void expertWithoutAnOffer() {
        Check.due("12: 0", decided(0, withClaim(60)), 0);
        Check.due("12: 1", decided(1, withClaim(60)), 1);
        Twin.refused("12: -1", () -> withClaim(60), x -> x.decide(0, -1), Check.ARGUMENT);
    }

    private static void expertAtTheClaim() {
        Check.due("12: just below the claim", decided(59, withClaim(60)), 59);
        Check.due("12: at the claim", decided(60, withClaim(60)), 60);
        Twin.refused("12: above the claim", () -> withClaim(60), x -> x.decide(0, 61), Check.ARGUMENT);
        Check.due("12: an offer of all of the claim", decided(60, withClaim(60, 60)), 60);
        Twin.refused("12: leaves nothing below", () -> withClaim(60, 60), x -> x.decide(0, 59), Check.ARGUMENT);
        Twin.refused("12: nor above", () -> withClaim(60, 60), x -> x.decide(0, 61), Check.ARGUMENT);
        Check.due("12: the most of all", decided(M, withClaim(M)), M);
        Twin.refused("12: above the most of all", () -> withClaim(M), x -> x.decide(0, M + 1), Check.ARGUMENT);
    }

    private static void smallestClaim() {
        Check.due("12: a claim of 1, at 0", decided(0, withClaim(1)), 0);
        Check.due("12: a claim of 1, at 1", decided(1, withClaim(1)), 1);
        Twin.refused("12: a claim of 1, at 2", () -> withClaim(1), x -> x.decide(0, 2), Check.ARGUMENT);
        Check.due("10: a claim of 1, an offer of 1", withClaim(1).offer(0, 1), PegBox.NONE);
        Twin.refused("10: a claim of 1, an offer of 2", () -> withClaim(1), x -> x.offer(0, 2), Check.ARGUMENT);
    }

    private static void openUntilThen() {
        PegBox x = plain();
        x.claim(0, 60);
        Check.due("26: open", x.settledAt(0), PegBox.NONE);
        x.offer(0, 60);
        Check.due("26: an offer of all of it leaves it open", x.settledAt(0), PegBox.NONE);
        x.advance(400);
        Check.due("26: days leave it open", x.settledAt(0), PegBox.NONE);
        x.report(5);
        x.speedUp();
        Check.due("26: the earn-out leaves it open", x.settledAt(0), PegBox.NONE);
        x.agree(0);
        Check.due("26: settled", x.settledAt(0), 60);
    }

    private static PegBox settledAtZero(boolean isAgreed) {
        PegBox x = withClaim(60);
        if (isAgreed) {
            x.offer(0, 0);
            x.agree(0);
        } else {
            x.decide(0, 0);
        }
        return x;
    }

    private static void settledAtZeroIsNotOpen() {
        for (boolean isAgreed : new boolean[] {true, false}) {
            Check.due("26: 0, not NONE", settledAtZero(isAgreed).settledAt(0), 0);
            Twin.refused("10: settled at 0", () -> settledAtZero(isAgreed), x -> x.offer(0, 0), Check.STATE);
            Twin.refused("11: settled at 0", () -> settledAtZero(isAgreed), x -> x.agree(0), Check.STATE);
            Twin.refused("12: settled at 0", () -> settledAtZero(isAgreed), x -> x.decide(0, 0), Check.STATE);
        }
    }

    private static PegBox withClaims(int count) {
        PegBox x = plain();
        for (int claim = 0; claim < count; claim++) {
            Check.due("9: numbered from 0", x.claim(0, claim + 1), claim);
            Check.due("25: so many claims", x.claims(), claim + 1);
        }
        return x;
    }

    private static void twentyClaims() {
        Check.due("9: the twentieth", withClaims(19).claim(0, 1), 19);
        Twin.refused("9: the twenty-first", () -> withClaims(20), x -> x.claim(0, 1), Check.STATE);
        Check.due("10: the last of them", withClaims(20).offer(19, 20), PegBox.NONE);
        Twin.refused("10: none after it", () -> withClaims(20), x -> x.offer(20, 0), Check.INDEX);
        Twin.refused("12: none after it", () -> withClaims(20), x -> x.decide(20, 0), Check.INDEX);
        PegBox settled = withClaims(20);
        for (int claim = 0; claim < 20; claim++) {
            settled.decide(claim, claim);
        }
        Check.same("9: settling makes no room", Check.thrownBy(() -> settled.claim(0, 1)), Check.STATE);
        Check.due("22: all of them are due", settled.due(), 190);
    }

    /** What is due of the kind 1 when its claims were settled at the sums; the other kinds have no limits. */
    private static int dueOf(int least, int basket, boolean isWhole, int cap, int... sums) {
        PegBox x = new PegBox();
        x.setKind(0, 0, 0, true, 10 * M, 0);
        x.setKind(1, least, basket, isWhole, cap, 0);
        x.setKind(2, 0, 0, true, 10 * M, 0);
        x.close(0, 0, 0);
        for (int sum : sums) {
            x.decide(x.claim(1, M), sum);
        }
        Check.due("22: due in all", x.due(), x.dueOf(1));
        Check.due("23: all of it is outstanding", x.outstanding(), x.dueOf(1));
        Check.due("24: nothing of the others", x.dueOf(0) + x.dueOf(2), 0);
        return x.dueOf(1);
    }

    private static void leastSum() {
        Check.due("24: below the least sum", dueOf(30, 0, true, M, 29), 0);
        Check.due("24: at the least sum", dueOf(30, 0, true, M, 30), 30);
        Check.due("24: above the least sum", dueOf(30, 0, true, M, 31), 31);
        Check.due("24: each for itself, not together", dueOf(30, 0, true, M, 29, 29), 0);
        Check.due("24: only those that count", dueOf(30, 0, true, M, 29, 30, 0, 31), 61);
    }

    private static void leastSumOfWhatItWasSettledAt() {
        PegBox x = new PegBox();
        x.setKind(0, 30, 0, true, M, 0);
        x.close(0, 0, 0);
        x.claim(0, 100);
        x.offer(0, 29);
        x.agree(0);
        Check.due("24: the claim is above the least sum, its settlement is not", x.dueOf(0), 0);
        x.claim(0, 100);
        x.offer(1, 29);
        x.offer(1, 30);
        x.agree(1);
        Check.due("24: settled at the least sum", x.dueOf(0), 30);
    }

    private static void leastSumsOfKinds() {
        PegBox x = new PegBox();
        for (int kind = 0; kind < 3; kind++) {
            x.setKind(kind, 10 * (kind + 1), 0, true, M, 0);
        }
        x.close(0, 0, 0);
        for (int kind = 0; kind < 3; kind++) {
            for (int sum : new int[] {9, 10, 19, 20, 29, 30}) {
                x.decide(x.claim(kind, 40), sum);
            }
        }
        Check.due("24: at least 10", x.dueOf(0), 10 + 19 + 20 + 29 + 30);
        Check.due("24: at least 20", x.dueOf(1), 20 + 29 + 30);
        Check.due("24: at least 30", x.dueOf(2), 30);
        Check.due("22: of all kinds", x.due(), 108 + 79 + 30);
    }

    private static void leastSumBeforeTheBasket() {
        Check.due("24: what is below does not fill a whole basket", dueOf(30, 60, true, M, 30, 29), 0);
        Check.due("24: what is at it does", dueOf(30, 60, true, M, 30, 30), 60);
        Check.due("24: what is below does not fill another basket", dueOf(30, 50, false, M, 30, 29), 0);
        Check.due("24: what is at it does fill it", dueOf(30, 50, false, M, 30, 30), 10);
    }

    private static void wholeBasket() {
        Check.due("24: whole, below the basket", dueOf(0, 50, true, M, 49), 0);
        Check.due("24: whole, at the basket", dueOf(0, 50, true, M, 50), 50);
        Check.due("24: whole, above the basket", dueOf(0, 50, true, M, 51), 51);
        Check.due("24: whole, together below", dueOf(0, 50, true, M, 25, 24), 0);
        Check.due("24: whole, together at", dueOf(0, 50, true, M, 25, 25), 50);
    }

    private static void wholeBasketOfZero() {
        Check.due("24: whole, 0, no claim", dueOf(0, 0, true, M), 0);
        Check.due("24: whole, 0, settled at 0", dueOf(0, 0, true, M, 0), 0);
        Check.due("24: whole, 0, settled at 1", dueOf(0, 0, true, M, 1), 1);
    }

    private static void basketThatIsNotWhole() {
        Check.due("24: not whole, below the basket", dueOf(0, 50, false, M, 49), 0);
        Check.due("24: not whole, at the basket", dueOf(0, 50, false, M, 50), 0);
        Check.due("24: not whole, above the basket", dueOf(0, 50, false, M, 51), 1);
        Check.due("24: not whole, together at", dueOf(0, 50, false, M, 25, 25), 0);
        Check.due("24: not whole, together above", dueOf(0, 50, false, M, 25, 26), 1);
    }

    private static void basketOfZero() {
        Check.due("24: not whole, 0, no claim", dueOf(0, 0, false, M), 0);
        Check.due("24: not whole, 0, settled at 0", dueOf(0, 0, false, M, 0), 0);
        Check.due("24: not whole, 0, settled at 1", dueOf(0, 0, false, M, 1), 1);
    }

    private static void cap() {
        Check.due("24: below the cap", dueOf(0, 0, true, 80, 79), 79);
        Check.due("24: at the cap", dueOf(0, 0, true, 80, 80), 80);
        Check.due("24: above the cap", dueOf(0, 0, true, 80, 81), 80);
        Check.due("24: together below the cap", dueOf(0, 0, true, 80, 40, 39), 79);
        Check.due("24: together above the cap", dueOf(0, 0, true, 80, 40, 41), 80);
    }

    private static void capAfterTheBasket() {
        Check.due("24: less the basket, below the cap", dueOf(0, 50, false, 80, 129), 79);
        Check.due("24: less the basket, at the cap", dueOf(0, 50, false, 80, 130), 80);
        Check.due("24: less the basket, above the cap", dueOf(0, 50, false, 80, 131), 80);
        Check.due("24: a cap below a whole basket, not reached", dueOf(0, 50, true, 20, 49), 0);
        Check.due("24: a cap below a whole basket, reached", dueOf(0, 50, true, 20, 50), 20);
        Check.due("24: the cap of a whole basket", dueOf(0, 50, true, 80, 81), 80);
    }

    private static void capOfZero() {
        Check.due("24: a cap of 0", dueOf(0, 0, true, 0, M), 0);
        Check.due("24: a cap of 0, not whole", dueOf(0, 0, false, 0, M), 0);
        Check.due("24: a cap of 1", dueOf(0, 0, false, 1, M), 1);
    }

    private static void openClaimsAreNotDue() {
        PegBox x = withClaim(60, 60);
        Check.due("22: open, though all of it is offered", x.due(), 0);
        Check.due("23: nothing is outstanding", x.outstanding(), 0);
        x.claim(0, 5);
        x.decide(1, 5);
        Check.due("22: only the settled one", x.due(), 5);
    }

    private static void kindsAreApart() {
        PegBox x = new PegBox();
        for (int kind = 0; kind < 3; kind++) {
            x.setKind(kind, 0, 50, true, 70, 0);
        }
        x.close(0, 0, 0);
        int[] sums = {49, 50, 71};
        for (int kind = 0; kind < 3; kind++) {
            x.decide(x.claim(kind, 100), sums[kind]);
        }
        Check.due("24: below its basket", x.dueOf(0), 0);
        Check.due("24: at its basket", x.dueOf(1), 50);
        Check.due("24: above its cap", x.dueOf(2), 70);
        Check.due("22: together", x.due(), 120);
    }

    private static void asMuchAsPossible() {
        int[] sums = {499, 500, 501};
        int[] back = {499, 500, 500};
        for (int i = 0; i < 3; i++) {
            PegBox x = withClaim(600);
            Check.due("12: as much as possible is returned", x.decide(0, sums[i]), back[i]);
            Check.due("19: returned", x.returned(), back[i]);
            Check.due("17: the rest is held", x.held(), 500 - back[i]);
            Check.due("23: the rest is outstanding", x.outstanding(), sums[i] - back[i]);
            PegBox y = withClaim(600, sums[i]);
            Check.due("11: as much as possible is returned", y.agree(0), back[i]);
            Check.due("17: the rest is held", y.held(), 500 - back[i]);
            Check.due("23: the rest is outstanding", y.outstanding(), sums[i] - back[i]);
        }
    }

    private static void nothingHeld() {
        PegBox x = new PegBox();
        x.setPrice(500, 0, 0);
        x.setKind(0, 0, 0, true, M, 0);
        x.close(0, 0, 0);
        x.claim(0, 60);
        Check.due("12: nothing is held", x.decide(0, 60), 0);
        Check.due("23: all is outstanding", x.outstanding(), 60);
        Check.due("18: what was paid stays paid", x.paid(), 500);
    }

    private static void nothingOutstanding() {
        PegBox x = new PegBox();
        x.setPrice(500, 0, 0);
        x.setPart(0, 500, 100);
        x.setKind(0, 0, 50, true, M, 0);
        x.close(0, 0, 0);
        x.claim(0, 49);
        x.claim(0, 1);
        Check.due("12: nothing is outstanding", x.decide(0, 49), 0);
        Check.due("17: all is held", x.held(), 500);
        Check.due("12: both are returned by the other", x.decide(1, 1), 50);
    }

    private static void noClaimIsPaidTwice() {
        PegBox x = withClaim(60);
        x.claim(0, 70);
        x.claim(0, 80);
        Check.due("12: the first", x.decide(0, 60), 60);
        Check.due("12: the second alone", x.decide(1, 70), 70);
        Check.due("12: the third, at 0", x.decide(2, 0), 0);
        Check.due("19: each once", x.returned(), 130);
        x.advance(100);
        Check.due("19: days return nothing", x.returned(), 130);
    }

    /** Of 80 due, 50 are returned and 20 set off; a claim that is settled then meets no held money. */
    private static void outstandingIsReckonedTogether() {
        PegBox x = new PegBox();
        x.setPrice(50, 0, 0);
        x.setPart(0, 50, 100);
        x.setKind(0, 0, 0, true, 85, 2000);
        x.setYear(0, 0, 20);
        x.close(0, 0, 0);
        x.claim(0, 80);
        x.claim(0, 10);
        x.decide(0, 80);
        Check.due("23: due less returned", x.outstanding(), 30);
        x.report(0);
        Check.due("23: due less returned and set off", x.outstanding(), 10);
        Check.due("12: nothing is held", x.decide(1, 10), 0);
        Check.due("22: up to the cap", x.due(), 85);
        Check.due("23: and what was added", x.outstanding(), 15);
    }
}
