/** The sentences of the document that name an edge of the earn-out: targets, carried misses, set-off, speeding up. */
public final class EarnOutEdgesTest {
    private static final int M = Boxes.M;

    public static void main(String[] args) {
        oneAfterTheOther();
        itsTargetOrMore();
        targetOfZero();
        togetherAtLeastTheirTargets();
        togetherWithoutCarrying();
        togetherThoughMissedByItself();
        metByItselfButNotTogether();
        eachYearThatWasMissedBefore();
        surplusOfMetYears();
        resultsBelowZero();
        carriedTargetsOfZero();
        notMetBefore();
        owedWithoutAmount();
        asMuchAsPossibleIsSetOff();
        nothingToSetOffAgainst();
        setOffInParts();
        setOffComesAfterReturning();
        settledAfterThePayment();
        speedingUpByYearsTold();
        missedYearsStaySo();
        speedingUpAfterCarriedYears();
        speedingUpIsSetOff();
        speedingUpOnce();
        metSoFar();
        heldPaidAndSetOffMakeThePrice();
        Check.end("EarnOutEdgesTest");
    }

    /** Targets of 10, 20, 30 and 40; amounts of 1, 2, 4 and 8; the kind 0 has no limits, nothing is held. */
    private static PegBox years(boolean isCarried, int... results) {
        PegBox x = new PegBox();
        for (int year = 0; year < 4; year++) {
            x.setYear(year, 10 * (year + 1), 1 << year);
        }
        x.setCarry(isCarried);
        x.setKind(0, 0, 0, true, 10 * M, 2000);
        x.close(0, 0, 0);
        for (int result : results) {
            x.report(result);
        }
        return x;
    }

    private static void met(String what, PegBox x, String want) {
        StringBuilder text = new StringBuilder();
        for (int year = 0; year < 4; year++) {
            text.append(x.isMet(year) ? '+' : '-');
        }
        Check.same("27: " + what, text.toString(), want);
    }

    private static void oneAfterTheOther() {
        PegBox x = years(false);
        met("none is told", x, "----");
        Check.due("13: the year 0", x.report(10), 1);
        met("the year 0", x, "+---");
        Check.due("13: the year 1", x.report(20), 2);
        met("the year 1", x, "++--");
        Check.due("13: the year 2", x.report(30), 4);
        met("the year 2", x, "+++-");
        Check.due("13: the year 3", x.report(40), 8);
        met("the year 3", x, "++++");
        Twin.refused("13: no year 4", () -> years(false, 10, 20, 30, 40), y -> y.report(50), Check.STATE);
    }

    private static void itsTargetOrMore() {
        int[] missed = {0, 0, 0, 0};
        for (int year = 0; year < 4; year++) {
            int[] before = java.util.Arrays.copyOf(missed, year);
            int target = 10 * (year + 1);
            for (int more = -1; more <= 1; more++) {
                PegBox x = years(false, before);
                Check.due("13: by its own result", x.report(target + more), more < 0 ? 0 : 1 << year);
                Check.due("27: whether it is met", x.isMet(year), more >= 0);
            }
        }
    }

    private static void targetOfZero() {
        for (int result = -1; result <= 1; result++) {
            PegBox x = new PegBox();
            x.setYear(0, 0, 9);
            x.close(0, 0, 0);
            Check.due("13: a target of 0", x.report(result), result < 0 ? 0 : 9);
        }
    }

    /** The results before the last year are 0, so that its result alone is held against all targets. */
    private static void togetherAtLeastTheirTargets() {
        int[] zeros = {0, 0, 0};
        int[] targets = {10, 30, 60, 100};
        int[] amounts = {1, 3, 7, 15};
        for (int year = 0; year < 4; year++) {
            int[] before = java.util.Arrays.copyOf(zeros, year);
            for (int more = -1; more <= 1; more++) {
                PegBox x = years(true, before);
                int alone = year == 0 ? 0 : 1 << year;
                Check.due("13: together", x.report(targets[year] + more), more < 0 ? alone : amounts[year]);
                for (int earlier = 0; earlier < year; earlier++) {
                    Check.due("27: those before", x.isMet(earlier), more >= 0);
                }
            }
        }
    }

    private static void togetherWithoutCarrying() {
        PegBox x = years(false, 0, 0, 0);
        Check.due("13: not carried, together at their targets", x.report(100), 8);
        met("not carried, those before stay missed", x, "---+");
        PegBox y = years(false, 1000);
        Check.due("13: not carried, more before does not help", y.report(19), 0);
    }

    private static void togetherThoughMissedByItself() {
        for (int more = -1; more <= 1; more++) {
            PegBox x = years(true, 9, 22);
            met("the year 0 is met by the year 1", years(true, 9, 22), "++--");
            Check.due("13: its own target is missed", x.report(29 + more), more < 0 ? 0 : 4);
        }
        PegBox z = years(true, 9, 40);
        Check.due("13: with 0, by what was more before", z.report(11), 4);
        Check.due("13: one below together", years(true, 9, 40).report(10), 0);
    }

    private static void metByItselfButNotTogether() {
        PegBox x = years(true, 0);
        Check.due("13: its own target, together 1 below", x.report(29), 2);
        met("the year 0 stays missed", x, "-+--");
        PegBox y = years(true, 0);
        Check.due("13: its own target, and together", y.report(30), 3);
        met("the year 0 is met, too", y, "++--");
    }

    private static void eachYearThatWasMissedBefore() {
        PegBox all = years(true, 0, 0, 0);
        Check.due("13: three were missed", all.report(100), 15);
        met("all are met", all, "++++");
        PegBox two = years(true, 0, 20, 0);
        met("two were missed", two, "-+--");
        Check.due("13: the amounts of these two, and its own", two.report(80), 1 + 4 + 8);
        met("all are met", two, "++++");
    }

    private static void surplusOfMetYears() {
        PegBox x = years(true);
        Check.due("13: far above", x.report(100), 1);
        Check.due("13: 0 by carrying", x.report(0), 2);
        Check.due("13: below 0 by carrying", x.report(-40), 4);
        Check.due("13: and just together", x.report(40), 8);
        PegBox y = years(true, 100, 0, -41);
        met("1 less together", y, "++--");
    }

    private static void resultsBelowZero() {
        PegBox x = years(true, -M);
        Check.due("13: the own target alone", x.report(20), 2);
        Check.due("13: together 1 below", years(true, -M, M, 30).report(69), 8);
        Check.due("13: together", years(true, -M, M, 30).report(70), 1 + 8);
    }

    private static void carriedTargetsOfZero() {
        PegBox x = new PegBox();
        for (int year = 0; year < 4; year++) {
            x.setYear(year, 0, 1 << year);
        }
        x.setCarry(true);
        x.close(0, 0, 0);
        Check.due("13: -1", x.report(-1), 0);
        Check.due("13: 0 by itself, together -1", x.report(0), 2);
        Check.due("13: 1 by itself, together 0", x.report(1), 1 + 4);
        Check.due("13: together -1", x.report(-1), 0);
        met("the last is missed", x, "+++-");
    }

    private static void notMetBefore() {
        PegBox x = years(true, 10, 20);
        Check.due("13: those met before are not owed again", x.report(30), 4);
        Check.due("21: each once", x.owed(), 7);
        PegBox y = years(true, 0, 30);
        Check.due("21: the year 0 is owed by the year 1", y.owed(), 3);
        Check.due("13: and not again", y.report(30), 4);
        Check.due("14: nor by speeding up", y.speedUp(), 8);
    }

    private static void owedWithoutAmount() {
        PegBox x = new PegBox();
        x.setYear(0, 5, 0);
        x.setYear(1, 5, 7);
        x.close(0, 0, 0);
        Check.due("13: an amount of 0", x.report(5), 0);
        met("it is met", x, "+---");
        Check.due("13: the next", x.report(5), 7);
    }

    /** 60 are outstanding, nothing is held; the year 0 has the amount. */
    private static PegBox outstanding(int amount) {
        PegBox x = new PegBox();
        x.setYear(0, 0, amount);
        x.setKind(0, 0, 0, true, M, 0);
        x.close(0, 0, 0);
        x.decide(x.claim(0, 60), 60);
        return x;
    }

    private static void asMuchAsPossibleIsSetOff() {
        int[] amounts = {59, 60, 61};
        int[] setOff = {59, 60, 60};
        for (int way = 0; way < 2; way++) {
            for (int i = 0; i < 3; i++) {
                PegBox x = outstanding(amounts[i]);
                Check.due("13, 14: owed, set off or not", way == 0 ? x.report(0) : x.speedUp(), amounts[i]);
                Check.due("21: owed", x.owed(), amounts[i]);
                Check.due("20: set off", x.setOff(), setOff[i]);
                Check.due("18: the rest is paid", x.paid(), amounts[i] - setOff[i]);
                Check.due("23: the rest is outstanding", x.outstanding(), 60 - setOff[i]);
                Check.due("22: due as before", x.due(), 60);
                Check.due("19: nothing is returned by that", x.returned(), 0);
            }
        }
    }

    private static void nothingToSetOffAgainst() {
        PegBox x = years(false, 10);
        Check.due("20: nothing is outstanding", x.setOff(), 0);
        Check.due("18: all is paid", x.paid(), 1);
        PegBox y = outstanding(0);
        Check.due("13: nothing is owed", y.report(0), 0);
        Check.due("20: nothing is set off", y.setOff(), 0);
        Check.due("23: all stays outstanding", y.outstanding(), 60);
        PegBox open = years(false);
        open.claim(0, 60);
        open.offer(0, 60);
        open.report(10);
        Check.due("20: nothing against an open claim", open.setOff(), 0);
    }

    private static void setOffInParts() {
        PegBox x = new PegBox();
        int[] amounts = {25, 34, 2, 5};
        for (int year = 0; year < 4; year++) {
            x.setYear(year, 0, amounts[year]);
        }
        x.setKind(0, 0, 0, true, M, 0);
        x.close(0, 0, 0);
        x.decide(x.claim(0, 60), 60);
        int[] setOff = {25, 59, 60, 60};
        int[] paid = {0, 0, 1, 6};
        for (int year = 0; year < 4; year++) {
            Check.due("13: owed", x.report(0), amounts[year]);
            Check.due("20: set off so far", x.setOff(), setOff[year]);
            Check.due("18: paid so far", x.paid(), paid[year]);
            Check.due("23: outstanding", x.outstanding(), 60 - setOff[year]);
        }
    }

    private static void setOffComesAfterReturning() {
        PegBox x = new PegBox();
        x.setPrice(40, 0, 0);
        x.setPart(0, 40, 5);
        x.setYear(0, 0, 30);
        x.setKind(0, 0, 0, true, M, 0);
        x.close(0, 0, 0);
        Check.due("12: out of what is held", x.decide(x.claim(0, 60), 60), 40);
        x.report(0);
        Check.due("20: only the rest is set off", x.setOff(), 20);
        Check.due("18: the rest is paid", x.paid(), 10);
    }

    private static void settledAfterThePayment() {
        PegBox x = years(false);
        x.claim(0, 60);
        x.report(10);
        x.decide(0, 60);
        Check.due("20: what was paid is not set off", x.setOff(), 0);
        Check.due("23: all is outstanding", x.outstanding(), 60);
        x.report(20);
        Check.due("20: what is owed after it is", x.setOff(), 2);
    }

    private static void speedingUpByYearsTold() {
        int[] owed = {15, 14, 12, 8, 0};
        String[] met = {"++++", "-+++", "--++", "---+", "----"};
        for (int told = 0; told <= 4; told++) {
            for (int way = 0; way < 2; way++) {
                PegBox x = years(way == 1, new int[told]);
                Check.due("14: the years that were not told", x.speedUp(), owed[told]);
                met("those that were told stay missed", x, met[told]);
                Check.due("21: owed", x.owed(), owed[told]);
                Check.due("18: paid", x.paid(), owed[told]);
            }
        }
    }

    private static void missedYearsStaySo() {
        PegBox x = years(false, 10, 19);
        Check.due("14: two are not told", x.speedUp(), 12);
        met("the missed one stays so", x, "+-++");
        Twin.refused("13: nor can it be met", () -> {
            PegBox y = years(true, 10, 19);
            y.speedUp();
            return y;
        }, y -> y.report(M), Check.STATE);
    }

    private static void speedingUpAfterCarriedYears() {
        PegBox x = years(true, 0, 30);
        Check.due("14: two are not told", x.speedUp(), 12);
        met("the carried one stays met", x, "++++");
        PegBox y = years(true, 0, 29);
        Check.due("14: two are not told", y.speedUp(), 12);
        met("the one that was not carried stays missed", y, "-+++");
        Check.due("14: nothing after four met years", years(false, 10, 20, 30, 40).speedUp(), 0);
    }

    private static void speedingUpIsSetOff() {
        int[] sums = {14, 15, 16};
        int[] setOff = {14, 15, 15};
        for (int i = 0; i < 3; i++) {
            PegBox x = years(false);
            x.decide(x.claim(0, 60), sums[i]);
            Check.due("14: owed, set off or not", x.speedUp(), 15);
            Check.due("20: as much as possible", x.setOff(), setOff[i]);
            Check.due("18: the rest is paid", x.paid(), 15 - setOff[i]);
            Check.due("23: the rest is outstanding", x.outstanding(), sums[i] - setOff[i]);
        }
    }

    private static PegBox spedUp(int... results) {
        PegBox x = years(true, results);
        x.speedUp();
        return x;
    }

    private static void speedingUpOnce() {
        for (int told = 0; told <= 4; told++) {
            int[] results = new int[told];
            Twin.refused("14: once", () -> spedUp(results), x -> x.speedUp(), Check.STATE);
            Twin.refused("13: none is told after it", () -> spedUp(results), x -> x.report(100), Check.STATE);
        }
    }

    private static void metSoFar() {
        PegBox x = years(true);
        x.advance(400);
        met("days meet none", x, "----");
        x.report(9);
        met("missed, so far", x, "----");
        x.report(21);
        met("met by a later one", x, "++--");
        x.report(-M);
        met("met stays met", x, "++--");
        x.speedUp();
        met("also by speeding up", x, "++-+");
    }

    /** What was paid, is held and was returned make the price, and what the earn-out owed and was not set off. */
    private static void heldPaidAndSetOffMakeThePrice() {
        PegBox x = Boxes.claimed();
        for (int result : new int[] {49, 20, 60}) {
            x.report(result);
            makesThePrice(x);
            x.decide(x.claim(0, 400), 300 - result);
            makesThePrice(x);
            x.advance(1);
            makesThePrice(x);
        }
        x.claim(1, 800);
        x.decide(7, 800);
        makesThePrice(x);
        x.speedUp();
        makesThePrice(x);
        Check.due("20: something was set off", x.setOff() > 0, true);
    }

    private static void makesThePrice(PegBox x) {
        Check.due("17 to 21: they make the price",
                x.held() + x.paid() + x.returned(), x.finalPrice() + x.owed() - x.setOff());
        Check.due("23: outstanding", x.outstanding(), x.due() - x.returned() - x.setOff());
    }
}
