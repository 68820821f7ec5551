/** Promises 13 and 14: the results of the years, speeding up, and set-off. */
public final class EarnOutTest {
    private static final int M = 10000000;

    public static void main(String[] args) {
        promise13Plain();
        promise13Carried();
        promise13CarriedEdges();
        promise13SetOff();
        promise14();
        promise14Carried();
        promise14SetOff();
        Check.end("EarnOutTest");
    }

    /** Targets of 10, 20, 30 and 40; amounts of 1, 2, 4 and 8. */
    private static PegBox years(boolean isCarried) {
        PegBox x = new PegBox();
        for (int year = 0; year < 4; year++) {
            x.setYear(year, 10 * (year + 1), 1 << year);
        }
        x.setCarry(isCarried);
        x.setKind(0, 0, 0, true, 10 * M, 2000);
        x.close(0, 0, 0);
        return x;
    }

    private static String met(PegBox x) {
        StringBuilder text = new StringBuilder();
        for (int year = 0; year < 4; year++) {
            text.append(x.isMet(year) ? '+' : '-');
        }
        return text.toString();
    }

    private static void promise13Plain() {
        PegBox x = years(false);
        Check.due("13: at the target", x.report(10), 1);
        Check.same("27: year 0", met(x), "+---");
        Check.due("13: below the target", x.report(19), 0);
        Check.same("27: year 1", met(x), "+---");
        Check.due("13: above the target, misses are not carried", x.report(1000), 4);
        Check.same("27: year 2", met(x), "+-+-");
        Check.due("13: the least of all", x.report(-M), 0);
        Check.same("27: year 3", met(x), "+-+-");
        Check.due("21: owed", x.owed(), 5);
        Check.due("18: paid", x.paid(), 5);
        Check.due("20: nothing is set off", x.setOff(), 0);
    }

    private static void promise13Carried() {
        PegBox x = years(true);
        Check.due("13: missed", x.report(9), 0);
        Check.due("13: missed again", x.report(20), 2);
        Check.same("27: by its own result alone", met(x), "-+--");
        Check.due("13: together just their targets", x.report(31), 1 + 4);
        Check.same("27: all before are met", met(x), "+++-");
        Check.due("13: nothing is owed twice", x.report(40), 8);
        Check.same("27: all", met(x), "++++");
        Check.due("21: owed", x.owed(), 15);
        Check.due("18: paid", x.paid(), 15);

        PegBox y = years(true);
        Check.due("13: far above", y.report(60), 1);
        Check.due("13: carried from before, below its own target", y.report(-20), 2);
        Check.due("13: together below, its own target missed", y.report(19), 0);
        Check.due("13: together at, its own target missed", y.report(41), 12);
        Check.same("27: all", met(y), "++++");
    }

    private static void promise13CarriedEdges() {
        PegBox x = years(true);
        x.report(0);
        x.report(0);
        Check.due("13: own target met, together one below", x.report(59), 4);
        Check.same("27: those before are not met", met(x), "--+-");
        Check.due("13: own target missed, together met", x.report(41), 1 + 2 + 8);
        Check.same("27: all are met", met(x), "++++");

        PegBox y = years(true);
        y.report(-M);
        y.report(-M);
        y.report(-M);
        Check.due("13: three of the least", y.report(M), 8);
        Check.same("27: own result alone", met(y), "---+");

        PegBox z = years(false);
        z.report(0);
        z.report(100);
        Check.same("27: not carried, those before stay missed", met(z), "-+--");
        z.report(1);
        Check.same("27: not carried, a surplus does not help", met(z), "-+--");
    }

    private static void promise13SetOff() {
        PegBox x = new PegBox();
        x.setYear(0, 0, 100);
        x.setYear(1, 0, 100);
        x.setYear(2, 0, 100);
        x.setPrice(50, 0, 0);
        x.setPart(0, 50, 10);
        x.setKind(0, 0, 0, true, M, 10);
        x.close(0, 0, 0);
        x.claim(0, 200);
        x.claim(0, 7);
        x.decide(0, 200);
        Check.due("23: outstanding", x.outstanding(), 150);
        Check.due("13: owed though it is set off", x.report(0), 100);
        Check.due("20: all of it is set off", x.setOff(), 100);
        Check.due("18: nothing is paid", x.paid(), 0);
        Check.due("23: less is outstanding", x.outstanding(), 50);
        Check.due("13: owed", x.report(0), 100);
        Check.due("20: part of it is set off", x.setOff(), 150);
        Check.due("18: the rest is paid", x.paid(), 50);
        Check.due("21: owed", x.owed(), 200);
        Check.due("23: nothing is outstanding", x.outstanding(), 0);
        Check.due("22: due stays", x.due(), 200);
        Check.due("13: owed", x.report(0), 100);
        Check.due("18: all of it is paid", x.paid(), 150);
        Check.due("12: nothing is held", x.decide(1, 7), 0);
        Check.due("23: what was paid does not come back", x.outstanding(), 7);
        Check.due("20: nor is it set off", x.setOff(), 150);
        Check.due("19: returned", x.returned(), 50);
    }

    private static void promise14() {
        int[] owed = {15, 14, 12, 8, 0};
        String[] met = {"++++", "-+++", "--++", "---+", "----"};
        for (int told = 0; told <= 4; told++) {
            PegBox x = years(false);
            for (int i = 0; i < told; i++) {
                x.report(0);
            }
            Check.due("14: what is owed", x.speedUp(), owed[told]);
            Check.same("27: missed ones stay so", met(x), met[told]);
            Check.due("21: owed", x.owed(), owed[told]);
            Check.due("18: paid", x.paid(), owed[told]);
        }
    }

    private static void promise14Carried() {
        PegBox x = years(true);
        x.report(10);
        x.report(0);
        Check.due("14: carried or not, missed ones stay so", x.speedUp(), 12);
        Check.same("27: met", met(x), "+-++");
        Check.due("21: in all", x.owed(), 13);
    }

    private static void promise14SetOff() {
        PegBox x = years(false);
        x.claim(0, 9);
        x.decide(0, 9);
        Check.due("23: outstanding", x.outstanding(), 9);
        Check.due("14: owed though it is set off", x.speedUp(), 15);
        Check.due("20: set off", x.setOff(), 9);
        Check.due("18: the rest is paid", x.paid(), 6);
        Check.due("23: nothing is outstanding", x.outstanding(), 0);
        PegBox y = years(false);
        y.claim(0, 19);
        y.decide(0, 19);
        y.speedUp();
        Check.due("20: all is set off", y.setOff(), 15);
        Check.due("18: nothing is paid", y.paid(), 0);
        Check.due("23: the rest stays outstanding", y.outstanding(), 4);
    }
}
