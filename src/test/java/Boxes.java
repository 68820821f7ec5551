/** The states in which calls are tried, each made anew; all terms differ from one another. */
final class Boxes {
    /** The most of a sum of money but for a cap. */
    static final int M = 10_000_000;

    private Boxes() {
    }

    static PegBox terms() {
        PegBox x = new PegBox();
        x.setPrice(1000, 100, 20);
        x.setPart(0, 200, 3);
        x.setPart(1, 100, 5);
        x.setPart(2, 50, 5);
        x.setPart(3, 30, 9);
        x.setKind(0, 10, 50, false, 120, 4);
        x.setKind(1, 0, 30, true, 1000, 6);
        x.setKind(2, 5, 0, false, 40, 2);
        x.setYear(0, 50, 70);
        x.setYear(1, 60, 80);
        x.setYear(2, 10, 30);
        x.setYear(3, 5, 6);
        x.setCarry(true);
        return x;
    }

    /** At 1045, of which 380 are held. */
    static PegBox closed() {
        PegBox x = terms();
        x.close(100, 50, 75);
        return x;
    }

    /** Claim 0 of 60 is open with an offer of 40, claim 1 of 150 without one; 2 is decided, 3 is agreed on. */
    static PegBox claimed() {
        PegBox x = closed();
        x.claim(0, 60);
        x.offer(0, 40);
        x.claim(1, 150);
        x.claim(2, 30);
        x.decide(2, 20);
        x.claim(1, 25);
        x.offer(3, 25);
        x.agree(3);
        return x;
    }

    /** As claimed, but the last days of all kinds are past. */
    static PegBox late() {
        PegBox x = claimed();
        x.advance(7);
        return x;
    }

    static PegBox onDay4000() {
        PegBox x = claimed();
        for (int i = 0; i < 10; i++) {
            x.advance(400);
        }
        return x;
    }

    /** 20 claims of 5 to 24 of the kind 1, of which claim 19 is settled. */
    static PegBox twenty() {
        PegBox x = closed();
        for (int claim = 0; claim < 20; claim++) {
            x.claim(1, 5 + claim);
        }
        x.decide(19, 24);
        return x;
    }

    /** The year 0 is missed; the others are not told. */
    static PegBox oneTold() {
        PegBox x = closed();
        x.report(49);
        return x;
    }

    static PegBox fourTold() {
        PegBox x = oneTold();
        x.report(20);
        x.report(10);
        x.report(4);
        return x;
    }

    static PegBox spedUp() {
        PegBox x = oneTold();
        x.speedUp();
        return x;
    }
}
