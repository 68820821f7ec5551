/** Promises 15 to 27: what there is, in one run from before closing to its end. */
public final class AnswersTest {
    public static void main(String[] args) {
        beforeClosing();
        oneRun();
        Check.end("AnswersTest");
    }

    private static void beforeClosing() {
        PegBox x = new PegBox();
        x.setPrice(500, 10, 5);
        x.setPart(0, 100, 5);
        x.setKind(0, 0, 0, true, 100, 5);
        x.setYear(0, 0, 70);
        x.setCarry(true);
        Check.same("15 to 27: terms alone change nothing", Check.all(x), Check.all(new PegBox()));
        Check.due("15: day", x.day(), PegBox.NONE);
        Check.due("16: finalPrice", x.finalPrice(), PegBox.NONE);
    }

    private static void oneRun() {
        PegBox x = new PegBox();
        x.setPrice(500, 10, 5);
        x.setPart(1, 100, 5);
        x.setKind(2, 3, 10, false, 90, 5);
        x.setKind(1, 0, 10, true, 200, 5);
        x.setYear(0, 10, 70);
        x.setYear(1, 10, 60);
        x.setCarry(true);
        x.close(40, 20, 1);
        same(x, "closed", "day 0 price 516 held 100 paid 416 returned 0 setOff 0 owed 0 due 0 outstanding 0"
                + " dueOf 0 0 0 claims 0 settledAt isMet false false false false");
        x.claim(2, 50);
        x.claim(1, 150);
        x.claim(2, 2);
        same(x, "claimed", "day 0 price 516 held 100 paid 416 returned 0 setOff 0 owed 0 due 0 outstanding 0"
                + " dueOf 0 0 0 claims 3 settledAt -1 -1 -1 isMet false false false false");
        x.offer(0, 30);
        x.agree(0);
        same(x, "agreed", "day 0 price 516 held 80 paid 416 returned 20 setOff 0 owed 0 due 20 outstanding 0"
                + " dueOf 0 0 20 claims 3 settledAt 30 -1 -1 isMet false false false false");
        x.decide(1, 150);
        same(x, "decided", "day 0 price 516 held 0 paid 416 returned 100 setOff 0 owed 0 due 170 outstanding 70"
                + " dueOf 0 150 20 claims 3 settledAt 30 150 -1 isMet false false false false");
        x.report(9);
        x.report(11);
        same(x, "told", "day 0 price 516 held 0 paid 476 returned 100 setOff 70 owed 130 due 170 outstanding 0"
                + " dueOf 0 150 20 claims 3 settledAt 30 150 -1 isMet true true false false");
        x.decide(2, 2);
        x.advance(6);
        x.speedUp();
        same(x, "sped up", "day 6 price 516 held 0 paid 476 returned 100 setOff 70 owed 130 due 170 outstanding 0"
                + " dueOf 0 150 20 claims 3 settledAt 30 150 2 isMet true true true true");
    }

    private static void same(PegBox x, String when, String want) {
        Check.same("15 to 27, " + when, Check.all(x), want);
        Check.same("15 to 27, " + when + ", asked again", Check.all(x), want);
    }
}
