/** Promises 9 to 12: claims, offers, and how claims are settled; and what is due by that. */
public final class ClaimsTest {
    private static final int M = 10000000;

    public static void main(String[] args) {
        promise9();
        promise9Twenty();
        promise10();
        promise11();
        promise12();
        leastSums();
        wholeBasket();
        otherBasket();
        caps();
        returning();
        freeingWhenSettled();
        Check.end("ClaimsTest");
    }

    /** A price of 1000, of which 400 are held until day 100; kind 0 without limits, up to day 50. */
    private static PegBox plain() {
        PegBox x = new PegBox();
        x.setPrice(1000, 0, 0);
        x.setPart(0, 400, 100);
        x.setKind(0, 0, 0, true, 10 * M, 50);
        x.close(0, 0, 0);
        return x;
    }

    private static void promise9() {
        PegBox x = plain();
        Check.due("9: the first", x.claim(0, 1), 0);
        Check.due("9: the second, the most of all", x.claim(0, M), 1);
        Check.due("9: kinds are numbered together", x.claim(1, 5), 2);
        Check.due("9: how many", x.claims(), 3);
        Check.due("9: open", x.settledAt(1), PegBox.NONE);
        x.advance(50);
        Check.due("9: on the last day", x.claim(0, 7), 3);
        x.advance(1);
        Check.refused(x, "9: past the last day", () -> x.claim(0, 7), Check.STATE);
        Check.due("9: offers after the last day", x.offer(3, 7), PegBox.NONE);
        Check.due("9: settling after the last day", x.agree(3), 7);
    }

    private static void promise9Twenty() {
        PegBox x = plain();
        for (int i = 0; i < 20; i++) {
            Check.due("9: a claim's number", x.claim(i % 2 == 0 ? 0 : 2, 1), i);
        }
        Check.refused(x, "9: there are 20", () -> x.claim(0, 1), Check.STATE);
        x.decide(19, 1);
        Check.refused(x, "9: settled ones count, too", () -> x.claim(0, 1), Check.STATE);
        Check.due("9: 20 and no more", x.claims(), 20);
        Check.refused(x, "9: the kind comes before 20", () -> x.claim(3, 1), Check.INDEX);
        Check.refused(x, "9: the amount comes before 20", () -> x.claim(0, 0), Check.ARGUMENT);
        Check.due("9: the last one was kept", x.settledAt(19), 1);
    }

    private static void promise10() {
        PegBox x = plain();
        x.claim(0, 60);
        x.claim(0, 70);
        Check.due("10: none before", x.offer(0, 0), PegBox.NONE);
        Check.due("10: an offer of 0 before", x.offer(0, 60), 0);
        Check.due("10: a lower one later", x.offer(0, 5), 60);
        Check.due("10: the same again", x.offer(0, 5), 5);
        Check.due("10: claims are apart", x.offer(1, 70), PegBox.NONE);
        Check.due("10: an offer settles nothing", x.settledAt(0), PegBox.NONE);
        Check.due("10: an offer returns nothing", x.held(), 400);
        Check.due("10: the last one counts", x.agree(0), 5);
        Check.due("10: the other one's", x.agree(1), 70);
    }

    private static void promise11() {
        PegBox x = plain();
        x.claim(0, 60);
        x.claim(0, 700);
        x.offer(0, 40);
        Check.due("11: what is returned", x.agree(0), 40);
        Check.due("11: settled at", x.settledAt(0), 40);
        Check.due("11: held", x.held(), 360);
        Check.due("11: returned", x.returned(), 40);
        x.offer(1, 700);
        Check.due("11: as much as is held", x.agree(1), 360);
        Check.due("11: settled at all of it", x.settledAt(1), 700);
        Check.due("11: returned in all", x.returned(), 400);
        Check.due("11: the rest is outstanding", x.outstanding(), 340);
        Check.due("11: due", x.due(), 740);
        Check.due("11: nothing is paid by that", x.paid(), 600);

        PegBox y = plain();
        y.claim(0, 60);
        y.offer(0, 0);
        Check.due("11: an offer of 0 is one", y.agree(0), 0);
        Check.due("11: settled at 0", y.settledAt(0), 0);
    }

    private static void promise12() {
        PegBox x = plain();
        x.claim(0, 60);
        x.claim(0, 60);
        x.claim(0, 60);
        x.claim(0, 600);
        Check.due("12: 0 without an offer", x.decide(0, 0), 0);
        Check.due("12: settled at 0", x.settledAt(0), 0);
        x.offer(1, 50);
        x.offer(1, 20);
        Check.due("12: the offer that was made last", x.decide(1, 20), 20);
        x.offer(2, 20);
        Check.due("12: the amount of the claim", x.decide(2, 60), 60);
        Check.due("12: settled at", x.settledAt(2), 60);
        Check.due("12: as much as is held", x.decide(3, 600), 320);
        Check.due("12: outstanding", x.outstanding(), 280);
    }

    /** Settles claims of a kind at the sums told; answers what is due of it. */
    private static int dueAfter(int least, int basket, boolean isWhole, int cap, int... sums) {
        PegBox x = new PegBox();
        x.setKind(1, least, basket, isWhole, cap, 0);
        x.setKind(0, 0, 0, false, 10 * M, 0);
        x.close(0, 0, 0);
        for (int sum : sums) {
            x.decide(x.claim(1, M), sum);
        }
        Check.due("22: due of all is due of the one kind", x.due(), x.dueOf(1));
        Check.due("24: nothing is due of the others", x.dueOf(0) + x.dueOf(2), 0);
        return x.dueOf(1);
    }

    private static void leastSums() {
        Check.due("24: at the least sum", dueAfter(10, 0, true, M, 10), 10);
        Check.due("24: below the least sum", dueAfter(10, 0, true, M, 9), 0);
        Check.due("24: each for itself", dueAfter(10, 0, true, M, 9, 11, 9, 10, 0), 21);
        Check.due("24: what is below counts for no basket", dueAfter(10, 20, true, M, 9, 11), 0);
        Check.due("24: no least sum", dueAfter(0, 0, true, M, 1, 0, 2), 3);
    }

    private static void wholeBasket() {
        Check.due("24: whole, below", dueAfter(0, 50, true, M, 49), 0);
        Check.due("24: whole, at", dueAfter(0, 50, true, M, 50), 50);
        Check.due("24: whole, above", dueAfter(0, 50, true, M, 20, 31), 51);
        Check.due("24: whole, nothing", dueAfter(0, 0, true, M), 0);
    }

    private static void otherBasket() {
        Check.due("24: not whole, below", dueAfter(0, 50, false, M, 49), 0);
        Check.due("24: not whole, at", dueAfter(0, 50, false, M, 50), 0);
        Check.due("24: not whole, above", dueAfter(0, 50, false, M, 20, 31), 1);
        Check.due("24: not whole, no basket", dueAfter(0, 0, false, M, 7), 7);
    }

    private static void caps() {
        Check.due("24: below the cap", dueAfter(0, 0, true, 50, 49), 49);
        Check.due("24: at the cap", dueAfter(0, 0, true, 50, 50), 50);
        Check.due("24: above the cap", dueAfter(0, 0, true, 50, 30, 30), 50);
        Check.due("24: the basket comes before the cap", dueAfter(0, 20, false, 50, 60), 40);
        Check.due("24: the cap for what is above the basket", dueAfter(0, 20, false, 50, 71), 50);
        Check.due("24: a cap below the whole basket", dueAfter(0, 50, true, 20, 50), 20);
        Check.due("24: no cap", dueAfter(0, 0, true, 0, 50), 0);
        int[] most = new int[20];
        java.util.Arrays.fill(most, M);
        Check.due("24: twenty of the most", dueAfter(0, 0, true, 10 * M, most), 10 * M);
    }

    private static void returning() {
        PegBox x = new PegBox();
        x.setPrice(1000, 0, 0);
        x.setPart(0, 400, 100);
        x.setKind(0, 0, 50, true, M, 50);
        x.setKind(1, 0, 30, false, 60, 50);
        x.close(0, 0, 0);
        x.claim(0, 49);
        x.claim(0, 49);
        x.claim(1, 500);
        Check.due("11: below the basket", x.decide(0, 49), 0);
        Check.due("11: past the basket, all of it", x.decide(1, 49), 98);
        Check.due("11: the kind's cap", x.decide(2, 500), 60);
        Check.due("22: due of all kinds", x.due(), 158);
        Check.due("24: kind 0", x.dueOf(0), 98);
        Check.due("24: kind 1", x.dueOf(1), 60);
        Check.due("23: nothing is outstanding", x.outstanding(), 0);
        Check.due("17: held", x.held(), 242);
        x.claim(0, 300);
        Check.due("11: as much as possible", x.decide(3, 300), 242);
        Check.due("23: the rest is outstanding", x.outstanding(), 58);
        x.claim(0, 5);
        Check.due("11: nothing is held any more", x.decide(4, 5), 0);
        Check.due("23: more is outstanding", x.outstanding(), 63);
        Check.due("19: returned", x.returned(), 400);
        Check.due("18: nothing more is paid", x.paid(), 600);
    }

    private static void freeingWhenSettled() {
        PegBox x = new PegBox();
        x.setPrice(1000, 0, 0);
        x.setPart(0, 100, 10);
        x.setPart(1, 50, 20);
        x.setKind(0, 0, 0, true, M, 2000);
        x.close(0, 0, 0);
        x.claim(0, 80);
        x.claim(0, 15);
        Check.due("12: nothing is freed before the day", x.decide(1, 0), 0);
        Check.due("17: all is held", x.held(), 150);
        x.advance(12);
        Check.due("17: the open claim and the later part", x.held(), 130);
        Check.due("12: returned first", x.decide(0, 70), 70);
        Check.due("17: then freed down to the later part", x.held(), 50);
        Check.due("18: the rest is paid", x.paid(), 880);
        Check.due("19: returned", x.returned(), 70);
        x.claim(0, 60);
        x.offer(2, 20);
        Check.due("11: out of what is held for a later part", x.agree(2), 20);
        Check.due("17: less than the later part", x.held(), 30);
        Check.due("18: nothing is freed by that", x.paid(), 880);
        x.advance(8);
        Check.due("17: the last day", x.held(), 0);
        Check.due("18: all but what was returned is paid", x.paid(), 910);
    }
}
