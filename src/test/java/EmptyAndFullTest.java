/**
 * Nothing yet, and full: no terms, no claim, no offer, no year told; 20 claims, four years, the day 4000, the largest
 * sums.
 */
public final class EmptyAndFullTest {
    private static final int M = Boxes.M;

    public static void main(String[] args) {
        newObject();
        termsAlone();
        closedWithoutTerms();
        kindsWithoutTerms();
        noClaimYet();
        noOfferYet();
        noYearToldYet();
        fullOfClaims();
        fullOfLargestClaims();
        fullOfDueKinds();
        fullOfYears();
        fullOfMissedYears();
        day4000();
        day4000WithOpenClaims();
        largestPrice();
        largestHeldAndReturned();
        largestPaid();
        largestSetOff();
        allCalls();
        Check.end("EmptyAndFullTest");
    }

    private static final String NEW = "day -1 price -1 held 0 paid 0 returned 0 setOff 0 owed 0 due 0 outstanding 0"
            + " dueOf 0 0 0 claims 0 settledAt isMet false false false false";

    private static void newObject() {
        Check.same("1: a new object", Check.all(new PegBox()), NEW);
        Check.due("15: NONE", new PegBox().day(), PegBox.NONE);
        Check.due("16: NONE", new PegBox().finalPrice(), PegBox.NONE);
        Check.due("NONE is -1", PegBox.NONE, -1);
    }

    private static void termsAlone() {
        Check.same("15 to 27: nothing is seen of the terms", Check.all(Boxes.terms()), NEW);
    }

    private static void closedWithoutTerms() {
        PegBox x = new PegBox();
        Check.due("7: a price of 0", x.close(0, 0, 0), 0);
        String after = " held 0 paid 0 returned 0 setOff 0 owed 0 due 0 outstanding 0 dueOf 0 0 0 claims 0 settledAt"
                + " isMet false false false false";
        Check.same("7: closed on day 0", Check.all(x), "day 0 price 0" + after);
        x.advance(1);
        Check.same("8: nothing is freed", Check.all(x), "day 1 price 0" + after);
        Check.due("1: a collar of 0", new PegBox().close(0, 0, 1), 1);
        Check.due("1: a peg of 0", new PegBox().close(1, 0, -1), 0);
        PegBox y = new PegBox();
        y.close(0, 0, 0);
        Check.due("1: targets of 0, amounts of 0", y.report(0), 0);
        Check.due("1: a target of 0 is met by 0", y.isMet(0), true);
        Check.due("1: a target of 0 is missed by -1", y.report(-1), 0);
        Check.due("1: it is missed", y.isMet(1), false);
        Check.due("1: misses are not carried", y.report(1), 0);
        Check.due("1: it stays missed", y.isMet(1), false);
    }

    private static void noClaimYet() {
        for (Twin.Maker maker : new Twin.Maker[] {PegBox::new, Boxes::terms, Boxes::closed, Boxes::spedUp}) {
            for (int claim : new int[] {-1, 0, 1, 19, 20}) {
                Twin.refused("10: no claim", maker, x -> x.offer(claim, 0), Check.INDEX);
                Twin.refused("11: no claim", maker, x -> x.agree(claim), Check.INDEX);
                Twin.refused("12: no claim", maker, x -> x.decide(claim, 0), Check.INDEX);
                Twin.refused("26: no claim", maker, x -> x.settledAt(claim), Check.INDEX);
            }
            Check.due("25: no claims", maker.make().claims(), 0);
            Check.due("22: nothing is due", maker.make().due(), 0);
        }
    }

    private static void kindsWithoutTerms() {
        PegBox x = new PegBox();
        x.close(0, 0, 0);
        Check.due("1: a last day of 0", x.claim(0, 5), 0);
        Check.due("1: a least sum and a basket of 0, but a cap of 0", x.decide(0, 5), 0);
        Check.due("1: nothing is due", x.due(), 0);
        x.advance(1);
        Check.same("1: the last day is past", Check.thrownBy(() -> x.claim(0, 5)), Check.STATE);
    }

    private static void noOfferYet() {
        Twin.refused("11: no offer", Boxes::claimed, x -> x.agree(1), Check.STATE);
        Check.due("10: none before", Boxes.claimed().offer(1, 5), PegBox.NONE);
        PegBox x = Boxes.claimed();
        x.decide(1, 0);
        Check.due("12: from 0", x.settledAt(1), 0);
    }

    private static void noYearToldYet() {
        PegBox x = Boxes.closed();
        for (int year = 0; year < 4; year++) {
            Check.due("27: none is met", x.isMet(year), false);
        }
        Check.due("21: nothing is owed", x.owed(), 0);
        Check.due("20: nothing is set off", x.setOff(), 0);
        Check.due("14: all are owed", x.speedUp(), 70 + 80 + 30 + 6);
    }

    private static void fullOfClaims() {
        PegBox x = Boxes.closed();
        for (int claim = 0; claim < 20; claim++) {
            Check.due("9: numbers", x.claim(claim % 3, 10 + claim), claim);
        }
        for (int claim = 0; claim < 20; claim++) {
            Check.due("10: each can be offered on", x.offer(claim, claim), PegBox.NONE);
        }
        for (int claim = 0; claim < 20; claim++) {
            if (claim % 2 == 0) {
                x.agree(claim);
            } else {
                x.decide(claim, 10 + claim);
            }
            Check.due("26: each is settled", x.settledAt(claim), claim % 2 == 0 ? claim : 10 + claim);
        }
        Check.due("24: kind 0: 13, 19, 12, 25 and 18 count, less 50", x.dueOf(0), 13 + 19 + 12 + 25 + 18 - 50);
        Check.due("24: kind 1: all, as they pass the basket", x.dueOf(1), 11 + 4 + 17 + 10 + 23 + 16 + 29);
        Check.due("24: kind 2: its cap", x.dueOf(2), 40);
        Check.due("25: 20 claims", x.claims(), 20);
    }

    private static PegBox largest(int escrowDay) {
        PegBox x = new PegBox();
        x.setPrice(M, -M, 0);
        for (int part = 0; part < 4; part++) {
            x.setPart(part, M, escrowDay);
            x.setYear(part, M, M);
        }
        for (int kind = 0; kind < 3; kind++) {
            x.setKind(kind, 0, 0, false, 10 * M, 2000);
        }
        x.close(M, 0, M);
        return x;
    }

    /** 20 open claims of 10000000 and four parts of as much: more than is ever held. */
    private static void fullOfLargestClaims() {
        PegBox x = largest(2000);
        for (int claim = 0; claim < 20; claim++) {
            x.claim(claim % 3, M);
        }
        x.advance(400);
        Check.due("8: all is kept", x.held(), 4 * M);
        for (int i = 0; i < 4; i++) {
            x.advance(400);
        }
        Check.due("8: kept by the claims alone", x.held(), 4 * M);
        for (int claim = 0; claim < 16; claim++) {
            x.decide(claim, 0);
        }
        Check.due("12: four open claims keep all", x.held(), 4 * M);
        x.decide(16, 0);
        Check.due("12: three keep less", x.held(), 3 * M);
        Check.due("12: the rest is paid", x.paid(), M);
    }

    private static void fullOfDueKinds() {
        PegBox one = largest(2000);
        for (int claim = 0; claim < 20; claim++) {
            one.decide(one.claim(1, M), M);
        }
        Check.due("24: one kind is due up to its cap", one.dueOf(1), 10 * M);
        Check.due("22: and no other", one.due(), 10 * M);
        PegBox three = largest(2000);
        for (int claim = 0; claim < 20; claim++) {
            three.decide(three.claim(claim % 3, M), M);
        }
        Check.due("24: seven claims", three.dueOf(0), 7 * M);
        Check.due("24: seven claims", three.dueOf(1), 7 * M);
        Check.due("24: six claims", three.dueOf(2), 6 * M);
        Check.due("22: the most that can be due", three.due(), 20 * M);
        Check.due("19: all that was held is returned", three.returned(), 4 * M);
        Check.due("23: the most that can be outstanding but for no escrow", three.outstanding(), 16 * M);
    }

    private static void fullOfYears() {
        PegBox x = new PegBox();
        for (int year = 0; year < 4; year++) {
            x.setYear(year, M, M);
        }
        x.setCarry(true);
        x.close(0, 0, 0);
        x.report(M - 1);
        for (int year = 1; year < 3; year++) {
            Check.due("13: each by itself, together 1 below", x.report(M), M);
        }
        Check.due("13: together 1 below to the last", x.report(M), M);
        Check.due("27: the first stays missed", x.isMet(0), false);
        Check.same("13: four are all", Check.thrownBy(() -> x.report(M)), Check.STATE);
        Check.due("14: none is left", x.speedUp(), 0);
        Check.due("21: owed", x.owed(), 3 * M);
    }

    private static void fullOfMissedYears() {
        PegBox x = new PegBox();
        x.setCarry(true);
        x.close(0, 0, 0);
        for (int year = 0; year < 4; year++) {
            Check.due("13: the least result", x.report(-M), 0);
            Check.due("27: missed", x.isMet(year), false);
        }
        Check.same("13: four are all", Check.thrownBy(() -> x.report(M)), Check.STATE);
        Check.due("14: none is left", x.speedUp(), 0);
    }

    private static void day4000() {
        PegBox x = Boxes.onDay4000();
        Check.due("15: day 4000", x.day(), 4000);
        Twin.refused("8: day 4001", Boxes::onDay4000, y -> y.advance(1), Check.STATE);
        Check.due("10: an offer", x.offer(1, 100), PegBox.NONE);
        Check.due("11: agreeing", x.agree(1), 125);
        Check.due("12: an expert", x.decide(0, 60), 10);
        Check.due("13: a result", x.report(49), 0);
        Check.due("14: speeding up", x.speedUp(), 116);
        Check.due("17: nothing is held any more", x.held(), 0);
    }

    private static void day4000WithOpenClaims() {
        PegBox x = Boxes.onDay4000();
        Check.due("8: open claims are kept to the last", x.held(), 60 + 150);
        x.decide(1, 0);
        Check.due("12: one is settled", x.held(), 60);
        x.decide(0, 40);
        Check.due("12: both are settled", x.held(), 0);
    }

    private static void largestPrice() {
        PegBox x = new PegBox();
        x.setPrice(M, -M, 0);
        Check.due("7: the largest", x.close(M, 0, M), 4 * M);
        Check.due("18: all is paid", x.paid(), 4 * M);
        PegBox y = new PegBox();
        y.setPrice(0, M, 0);
        y.setPart(0, M, 5);
        Check.due("7: the furthest below 0", y.close(0, M, -M), 0);
        Check.due("17: nothing is held of it", y.held(), 0);
        Check.due("18: nothing is paid of it", y.paid(), 0);
    }

    private static void largestHeldAndReturned() {
        PegBox x = largest(1);
        Check.due("17: the most that is held", x.held(), 4 * M);
        Check.due("18: nothing is paid", x.paid(), 0);
        for (int claim = 0; claim < 5; claim++) {
            Check.due("12: returned as long as it is held", x.decide(x.claim(0, M), M), claim < 4 ? M : 0);
        }
        Check.due("19: the most that is returned", x.returned(), 4 * M);
        PegBox y = largest(1);
        y.advance(1);
        Check.due("18: the most that is freed", y.paid(), 4 * M);
    }

    private static void largestPaid() {
        PegBox x = largest(1);
        x.advance(1);
        Check.due("14: the most that is owed", x.speedUp(), 4 * M);
        Check.due("18: the most that is paid", x.paid(), 8 * M);
        PegBox y = largest(1);
        y.advance(1);
        for (int year = 0; year < 4; year++) {
            Check.due("13: each year", y.report(M), M);
        }
        Check.due("18: as much by results", y.paid(), 8 * M);
    }

    private static void largestSetOff() {
        PegBox x = new PegBox();
        for (int year = 0; year < 4; year++) {
            x.setYear(year, M, M);
        }
        for (int kind = 0; kind < 3; kind++) {
            x.setKind(kind, M, M, true, 10 * M, 0);
        }
        x.close(0, 0, 0);
        for (int claim = 0; claim < 20; claim++) {
            Check.due("12: nothing is held", x.decide(x.claim(claim % 3, M), M), 0);
        }
        Check.due("23: the most that is outstanding", x.outstanding(), 20 * M);
        Check.due("13: the most of one year", x.report(M), M);
        Check.due("14: the most of three years", x.speedUp(), 3 * M);
        Check.due("21: the most that is owed", x.owed(), 4 * M);
        Check.due("20: the most that is set off", x.setOff(), 4 * M);
        Check.due("18: nothing is paid", x.paid(), 0);
        Check.due("23: the rest is outstanding", x.outstanding(), 16 * M);
        PegBox y = largest(1);
        for (int claim = 0; claim < 20; claim++) {
            y.decide(y.claim(claim % 3, M), M);
        }
        Check.due("14: the most that is owed", y.speedUp(), 4 * M);
        Check.due("20: the most that is set off, besides the most that is returned", y.setOff(), 4 * M);
        Check.due("23: the rest is outstanding", y.outstanding(), 12 * M);
    }

    /** An object answers for 512 calls: these are as many, and the last must still be right. */
    private static void allCalls() {
        PegBox x = Boxes.closed();
        x.claim(0, M);
        int made = 15;
        int before = PegBox.NONE;
        while (made < 510) {
            int offer = made * 7;
            Check.due("10: the offer before", x.offer(0, offer), before);
            before = offer;
            made++;
        }
        x.agree(0);
        Check.due("26: the call 512", x.settledAt(0), before);
    }
}
