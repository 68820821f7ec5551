/** Promises 7 and 8: closing, the days, and freeing by day. */
public final class ClosingTest {
    private static final int M = 10000000;

    public static void main(String[] args) {
        promise7Price();
        promise7Collar();
        promise7Escrow();
        promise8Days();
        promise8Freeing();
        promise8OpenClaims();
        promise8ShortEscrow();
        Check.end("ClosingTest");
    }

    private static int priceOf(int price, int peg, int collar, int cash, int debt, int capital) {
        PegBox x = new PegBox();
        x.setPrice(price, peg, collar);
        int answer = x.close(cash, debt, capital);
        Check.due("7: finalPrice is what close answered", x.finalPrice(), answer);
        Check.due("7: with no parts all is paid", x.paid(), answer);
        Check.due("7: with no parts nothing is held", x.held(), 0);
        Check.due("7: closing is on day 0", x.day(), 0);
        return answer;
    }

    private static void promise7Price() {
        Check.due("7: price, cash, debt", priceOf(1000, 0, 0, 300, 70, 0), 1230);
        Check.due("7: not below 0", priceOf(1000, 0, 0, 0, 1001, 0), 0);
        Check.due("7: just 0", priceOf(1000, 0, 0, 0, 1000, 0), 0);
        Check.due("7: just above 0", priceOf(1000, 0, 0, 0, 999, 0), 1);
        Check.due("7: capital lifts it above 0", priceOf(1000, 0, 0, 0, 1001, 5), 4);
        Check.due("7: capital brings it below 0", priceOf(4, 0, 0, 0, 0, -5), 0);
        Check.due("7: the most of all", priceOf(M, -M, 0, M, 0, M), 4 * M);
        Check.due("7: the least of all", priceOf(0, M, 0, 0, M, -M), 0);
        Check.due("7: only the capital less the peg counts", priceOf(0, 30, 0, 0, 0, 30), 0);
    }

    private static void promise7Collar() {
        Check.due("7: at the collar", priceOf(1000, 100, 20, 0, 0, 120), 1000);
        Check.due("7: above the collar", priceOf(1000, 100, 20, 0, 0, 121), 1001);
        Check.due("7: within the collar", priceOf(1000, 100, 20, 0, 0, 81), 1000);
        Check.due("7: at 0 less the collar", priceOf(1000, 100, 20, 0, 0, 80), 1000);
        Check.due("7: below 0 less the collar", priceOf(1000, 100, 20, 0, 0, 79), 999);
        Check.due("7: a collar of 0, above", priceOf(1000, -5, 0, 0, 0, -4), 1001);
        Check.due("7: a collar of 0, below", priceOf(1000, -5, 0, 0, 0, -6), 999);
        Check.due("7: the widest collar", priceOf(1000, -M, M, 0, 0, M), 1000 + M);
    }

    private static void promise7Escrow() {
        int[][] cases = {{700, 600}, {601, 600}, {600, 600}, {599, 599}, {0, 0}};
        for (int[] c : cases) {
            PegBox x = new PegBox();
            x.setPrice(c[0], 0, 0);
            x.setPart(0, 100, 1);
            x.setPart(1, 200, 2000);
            x.setPart(3, 300, 7);
            Check.due("7: the final price", x.close(0, 0, 0), c[0]);
            Check.due("7: what is held", x.held(), c[1]);
            Check.due("7: what is not held is paid", x.paid(), c[0] - c[1]);
            Check.due("7: nothing is returned", x.returned(), 0);
        }
    }

    private static void promise8Days() {
        PegBox x = new PegBox();
        x.close(0, 0, 0);
        int day = 0;
        for (int i = 0; i < 9; i++) {
            day += 400;
            Check.due("8: the day then", x.advance(400), day);
            Check.due("8: day", x.day(), day);
        }
        Check.due("8: one day", x.advance(1), 3601);
        Check.refused(x, "8: above 4000", () -> x.advance(400), Check.STATE);
        Check.due("8: just 4000", x.advance(399), 4000);
        Check.refused(x, "8: 4001", () -> x.advance(1), Check.STATE);
        Check.refused(x, "8: the range comes first", () -> x.advance(401), Check.ARGUMENT);
    }

    private static void promise8Freeing() {
        PegBox x = new PegBox();
        x.setPrice(1000, 0, 0);
        x.setPart(0, 10, 5);
        x.setPart(1, 20, 5);
        x.setPart(2, 40, 6);
        x.setPart(3, 80, 2000);
        x.close(0, 0, 0);
        Check.due("8: paid at closing", x.paid(), 850);
        x.advance(4);
        Check.due("8: held before the first day", x.held(), 150);
        x.advance(1);
        Check.due("8: two parts of one day", x.held(), 120);
        Check.due("8: what is freed is paid", x.paid(), 880);
        x.advance(400);
        Check.due("8: a day on the way", x.held(), 80);
        for (int i = 0; i < 3; i++) {
            x.advance(400);
        }
        x.advance(394);
        Check.due("8: day 1999", x.held(), 80);
        x.advance(1);
        Check.due("8: day 2000", x.held(), 0);
        Check.due("8: all is paid", x.paid(), 1000);
        Check.due("8: nothing is returned", x.returned(), 0);
    }

    private static void promise8OpenClaims() {
        PegBox x = new PegBox();
        x.setPrice(1000, 0, 0);
        x.setPart(0, 100, 10);
        x.setPart(1, 50, 20);
        x.setKind(0, 0, 0, true, M, 2000);
        x.close(0, 0, 0);
        x.claim(0, 30);
        x.claim(0, 25);
        x.advance(10);
        Check.due("8: later parts and open claims are kept", x.held(), 105);
        Check.due("8: the rest is paid", x.paid(), 895);
        x.claim(0, 500);
        x.advance(10);
        Check.due("8: a claim above what is held keeps all", x.held(), 105);
        x.offer(2, 0);
        x.advance(1);
        Check.due("8: an offer does not lessen an open claim", x.held(), 105);
        Check.due("8: settled at 0, the rest is freed", x.agree(2), 0);
        Check.due("8: what the open claims keep", x.held(), 55);
    }

    private static void promise8ShortEscrow() {
        PegBox x = new PegBox();
        x.setPrice(120, 0, 0);
        x.setPart(0, 100, 10);
        x.setPart(1, 100, 20);
        x.close(0, 0, 0);
        Check.due("8: all of the price is held", x.held(), 120);
        x.advance(10);
        Check.due("8: only what is more than the later parts is freed", x.held(), 100);
        x.advance(10);
        Check.due("8: then the rest", x.paid(), 120);

        PegBox y = new PegBox();
        y.setPrice(90, 0, 0);
        y.setPart(0, 100, 10);
        y.setPart(1, 100, 20);
        y.close(0, 0, 0);
        y.advance(10);
        Check.due("8: less than the later parts frees nothing", y.held(), 90);
        Check.due("8: and pays nothing", y.paid(), 0);
    }
}
