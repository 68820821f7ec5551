/**
 * The ranges of the arguments, promises 2 to 14 and 24 to 27: the last value that is allowed and the first that is not,
 * on both sides. What is allowed counts in full; what is not is refused and changes nothing.
 */
public final class RangesTest {
    private static final int M = Boxes.M;

    public static void main(String[] args) {
        price();
        peg();
        collar();
        part();
        partAmount();
        partDay();
        kind();
        least();
        basket();
        cap();
        lastDay();
        year();
        target();
        yearAmount();
        cash();
        debt();
        capital();
        days();
        claimKind();
        claimAmount();
        offerClaim();
        offerAmount();
        agreeClaim();
        decideClaim();
        decideAmount();
        result();
        dueOfKind();
        settledAtClaim();
        isMetYear();
        Check.end("RangesTest");
    }

    private interface WithValue {
        void on(PegBox x, int value);
    }

    /** The first values below and above the range, and the furthest, are refused. */
    private static void outside(String what, Twin.Maker maker, int low, int high, String want, WithValue call) {
        for (int value : new int[] {low - 1, high + 1, Integer.MIN_VALUE, Integer.MAX_VALUE}) {
            Twin.refused(what + " " + value, maker, x -> call.on(x, value), want);
        }
    }

    private static int closedAt(int price, int peg, int collar, int cash, int debt, int capital) {
        PegBox x = new PegBox();
        x.setPrice(price, peg, collar);
        return x.close(cash, debt, capital);
    }

    private static void price() {
        Check.due("2: price 0", closedAt(0, 0, 0, 5, 0, 0), 5);
        Check.due("2: price 10000000", closedAt(M, 0, 0, 5, 0, 0), M + 5);
        outside("2: price", Boxes::terms, 0, M, Check.ARGUMENT, (x, value) -> x.setPrice(value, 0, 0));
    }

    private static void peg() {
        Check.due("2: peg -10000000", closedAt(7, -M, 0, 0, 0, 0), M + 7);
        Check.due("2: peg 10000000", closedAt(M, M, 0, 7, 0, 0), 7);
        outside("2: peg", Boxes::terms, -M, M, Check.ARGUMENT, (x, value) -> x.setPrice(0, value, 0));
    }

    private static void collar() {
        Check.due("2: collar 0, above", closedAt(7, 0, 0, 0, 0, 1), 8);
        Check.due("2: collar 0, below", closedAt(7, 0, 0, 0, 0, -1), 6);
        Check.due("2: collar 10000000, at", closedAt(7, 0, M, 0, 0, M), 7);
        Check.due("2: collar 10000000, above", closedAt(7, -1, M, 0, 0, M), 8);
        Check.due("2: collar 10000000, at, below 0", closedAt(7, 0, M, 0, 0, -M), 7);
        Check.due("2: collar 10000000, below", closedAt(7, 1, M, 0, 0, -M), 6);
        outside("2: collar", Boxes::terms, 0, M, Check.ARGUMENT, (x, value) -> x.setPrice(0, 0, value));
    }

    /** At a price of 40000000, so that all parts can be held in full. */
    private static PegBox withPart(int part, int amount, int day) {
        PegBox x = new PegBox();
        x.setPrice(M, -M, 0);
        x.setPart(part, amount, day);
        x.close(M, 0, M);
        return x;
    }

    private static void part() {
        for (int part = 0; part < 4; part++) {
            Check.due("3: part " + part, withPart(part, 9 + part, 1).held(), 9 + part);
        }
        outside("3: part", Boxes::terms, 0, 3, Check.INDEX, (x, value) -> x.setPart(value, 9, 1));
    }

    private static void partAmount() {
        for (int part = 0; part < 4; part++) {
            int p = part;
            Check.due("3: amount 0", withPart(part, 0, 1).held(), 0);
            Check.due("3: amount 10000000", withPart(part, M, 1).held(), M);
            outside("3: amount", Boxes::terms, 0, M, Check.ARGUMENT, (x, value) -> x.setPart(p, value, 1));
        }
    }

    private static void partDay() {
        for (int part = 0; part < 4; part++) {
            int p = part;
            PegBox first = withPart(part, 9, 1);
            Check.due("3: day 1, on day 0", first.held(), 9);
            first.advance(1);
            Check.due("3: day 1, on day 1", first.held(), 0);
            PegBox last = withPart(part, 9, 2000);
            advance(last, 1999);
            Check.due("3: day 2000, on day 1999", last.held(), 9);
            last.advance(1);
            Check.due("3: day 2000, on day 2000", last.held(), 0);
            outside("3: day", Boxes::terms, 1, 2000, Check.ARGUMENT, (x, value) -> x.setPart(p, 9, value));
        }
    }

    private static void advance(PegBox x, int days) {
        int left = days;
        while (left > 0) {
            x.advance(Math.min(left, 400));
            left -= Math.min(left, 400);
        }
    }

    /** What is due of a kind with these terms when claims were settled at the sums. */
    private static int dueOf(int kind, int least, int basket, boolean isWhole, int cap, int... sums) {
        PegBox x = new PegBox();
        x.setKind(kind, least, basket, isWhole, cap, 0);
        x.close(0, 0, 0);
        for (int sum : sums) {
            x.decide(x.claim(kind, M), sum);
        }
        return x.dueOf(kind);
    }

    private static void kind() {
        for (int kind = 0; kind < 3; kind++) {
            Check.due("4: kind " + kind, dueOf(kind, 0, 0, true, 90, 70 + kind), 70 + kind);
        }
        outside("4: kind", Boxes::terms, 0, 2, Check.INDEX, (x, value) -> x.setKind(value, 1, 2, true, 3, 4));
    }

    private static void least() {
        for (int kind = 0; kind < 3; kind++) {
            int k = kind;
            Check.due("4: least 0", dueOf(kind, 0, 0, true, M, 1), 1);
            Check.due("4: least 10000000, at", dueOf(kind, M, 0, true, M, M), M);
            Check.due("4: least 10000000, below", dueOf(kind, M, 0, true, M, M - 1), 0);
            outside("4: least", Boxes::terms, 0, M, Check.ARGUMENT, (x, value) -> x.setKind(k, value, 2, k == 0, 3, 4));
        }
    }

    private static void basket() {
        for (int kind = 0; kind < 3; kind++) {
            int k = kind;
            Check.due("4: basket 0, whole", dueOf(kind, 0, 0, true, M, 1), 1);
            Check.due("4: basket 0, not whole", dueOf(kind, 0, 0, false, M, 1), 1);
            Check.due("4: basket 10000000, whole, below", dueOf(kind, 0, M, true, M, M - 1), 0);
            Check.due("4: basket 10000000, whole, at", dueOf(kind, 0, M, true, M, M), M);
            Check.due("4: basket 10000000, not whole, at", dueOf(kind, 0, M, false, M, M), 0);
            Check.due("4: basket 10000000, not whole, above", dueOf(kind, 0, M, false, M, M, 1), 1);
            outside("4: basket", Boxes::terms, 0, M, Check.ARGUMENT,
                    (x, value) -> x.setKind(k, 1, value, k == 0, 3, 4));
        }
    }

    private static void cap() {
        int[] nine = new int[9];
        java.util.Arrays.fill(nine, M);
        for (int kind = 0; kind < 3; kind++) {
            int k = kind;
            Check.due("4: cap 0", dueOf(kind, 0, 0, true, 0, 1), 0);
            Check.due("4: cap 100000000, below", dueOf(kind, 0, 0, true, 10 * M, and(nine, M - 1)), 10 * M - 1);
            Check.due("4: cap 100000000, at", dueOf(kind, 0, 0, true, 10 * M, and(nine, M)), 10 * M);
            Check.due("4: cap 100000000, above", dueOf(kind, 0, 0, true, 10 * M, and(nine, M, 1)), 10 * M);
            outside("4: cap", Boxes::terms, 0, 10 * M, Check.ARGUMENT,
                    (x, value) -> x.setKind(k, 1, 2, k == 0, value, 4));
        }
    }

    private static int[] and(int[] sums, int... more) {
        int[] all = java.util.Arrays.copyOf(sums, sums.length + more.length);
        System.arraycopy(more, 0, all, sums.length, more.length);
        return all;
    }

    private static PegBox onDay(int kind, int lastDay, int day) {
        PegBox x = new PegBox();
        x.setKind(kind, 0, 0, true, 9, lastDay);
        x.close(0, 0, 0);
        advance(x, day);
        return x;
    }

    private static void lastDay() {
        for (int kind = 0; kind < 3; kind++) {
            int k = kind;
            Check.due("4: last day 0, on day 0", onDay(kind, 0, 0).claim(kind, 1), 0);
            Twin.refused("4: last day 0, on day 1", () -> onDay(k, 0, 1), x -> x.claim(k, 1), Check.STATE);
            Check.due("4: last day 2000, on day 2000", onDay(kind, 2000, 2000).claim(kind, 1), 0);
            Twin.refused("4: last day 2000, on day 2001", () -> onDay(k, 2000, 2001), x -> x.claim(k, 1), Check.STATE);
            outside("4: last day", Boxes::terms, 0, 2000, Check.ARGUMENT,
                    (x, value) -> x.setKind(k, 1, 2, k == 0, 3, value));
        }
    }

    /** Answers what is owed when the year is told; all years before it are missed. */
    private static int owedBy(int year, int target, int amount, int result) {
        PegBox x = new PegBox();
        x.setYear(year, target, amount);
        x.close(0, 0, 0);
        for (int before = 0; before < year; before++) {
            x.report(-1);
        }
        int owed = x.report(result);
        Check.due("21: owed in all", x.owed(), owed);
        Check.due("27: met", x.isMet(year), result >= target);
        return owed;
    }

    private static void year() {
        for (int year = 0; year < 4; year++) {
            Check.due("5: year " + year, owedBy(year, 3, 60 + year, 3), 60 + year);
        }
        outside("5: year", Boxes::terms, 0, 3, Check.INDEX, (x, value) -> x.setYear(value, 1, 2));
    }

    private static void target() {
        for (int year = 0; year < 4; year++) {
            int y = year;
            Check.due("5: target 0, at", owedBy(year, 0, 8, 0), 8);
            Check.due("5: target 0, below", owedBy(year, 0, 8, -1), 0);
            Check.due("5: target 10000000, at", owedBy(year, M, 8, M), 8);
            Check.due("5: target 10000000, below", owedBy(year, M, 8, M - 1), 0);
            outside("5: target", Boxes::terms, 0, M, Check.ARGUMENT, (x, value) -> x.setYear(y, value, 2));
        }
    }

    private static void yearAmount() {
        for (int year = 0; year < 4; year++) {
            int y = year;
            Check.due("5: amount 0", owedBy(year, 5, 0, 5), 0);
            Check.due("5: amount 10000000", owedBy(year, 5, M, 5), M);
            outside("5: amount", Boxes::terms, 0, M, Check.ARGUMENT, (x, value) -> x.setYear(y, 1, value));
        }
    }

    private static void cash() {
        Check.due("7: cash 0", closedAt(9, 0, 0, 0, 0, 0), 9);
        Check.due("7: cash 10000000", closedAt(9, 0, 0, M, 0, 0), M + 9);
        outside("7: cash", Boxes::terms, 0, M, Check.ARGUMENT, (x, value) -> x.close(value, 0, 0));
    }

    private static void debt() {
        Check.due("7: debt 0", closedAt(M, 0, 0, 9, 0, 0), M + 9);
        Check.due("7: debt 10000000", closedAt(M, 0, 0, 9, M, 0), 9);
        outside("7: debt", Boxes::terms, 0, M, Check.ARGUMENT, (x, value) -> x.close(0, value, 0));
    }

    private static void capital() {
        Check.due("7: capital -10000000", closedAt(M, 0, 0, 9, 0, -M), 9);
        Check.due("7: capital 10000000", closedAt(M, 0, 0, 9, 0, M), 2 * M + 9);
        outside("7: capital", Boxes::terms, -M, M, Check.ARGUMENT, (x, value) -> x.close(0, 0, value));
    }

    private static void days() {
        Check.due("8: 1 day", Boxes.closed().advance(1), 1);
        Check.due("8: 400 days", Boxes.closed().advance(400), 400);
        outside("8: days", Boxes::claimed, 1, 400, Check.ARGUMENT, (x, value) -> x.advance(value));
        Twin.refused("8: days -1", Boxes::claimed, x -> x.advance(-1), Check.ARGUMENT);
        outside("8: days, on the day before a part's", RangesTest::onDay2, 1, 400, Check.ARGUMENT,
                (x, value) -> x.advance(value));
    }

    private static PegBox onDay2() {
        PegBox x = Boxes.closed();
        x.advance(2);
        return x;
    }

    private static void claimKind() {
        for (int kind = 0; kind < 3; kind++) {
            Check.due("9: kind " + kind, Boxes.closed().claim(kind, 1), 0);
        }
        outside("9: kind", Boxes::claimed, 0, 2, Check.INDEX, (x, value) -> x.claim(value, 1));
    }

    private static void claimAmount() {
        for (int amount : new int[] {1, M}) {
            PegBox x = Boxes.closed();
            Check.due("9: amount " + amount, x.claim(1, amount), 0);
            Check.same("9: all of the amount can be offered", Check.thrownBy(() -> x.offer(0, amount)), Check.NOTHING);
            Check.same("9: and no more", Check.thrownBy(() -> x.offer(0, amount + 1)), Check.ARGUMENT);
        }
        outside("9: amount", Boxes::claimed, 1, M, Check.ARGUMENT, (x, value) -> x.claim(1, value));
        Twin.refused("9: amount -1", Boxes::claimed, x -> x.claim(1, -1), Check.ARGUMENT);
    }

    private static void offerClaim() {
        Check.due("10: the first claim", Boxes.claimed().offer(0, 1), 40);
        Check.due("10: the last claim", Boxes.twenty().offer(18, 1), PegBox.NONE);
        outside("10: claim", Boxes::claimed, 0, 3, Check.INDEX, (x, value) -> x.offer(value, 0));
        outside("10: claim of 20", Boxes::twenty, 0, 19, Check.INDEX, (x, value) -> x.offer(value, 0));
    }

    private static void offerAmount() {
        Check.due("10: an offer of 0", Boxes.claimed().offer(0, 0), 40);
        Check.due("10: an offer of the amount of the claim", Boxes.claimed().offer(0, 60), 40);
        outside("10: amount", Boxes::claimed, 0, 60, Check.ARGUMENT, (x, value) -> x.offer(0, value));
        Check.due("10: a first offer of 0", Boxes.claimed().offer(1, 0), PegBox.NONE);
        Check.due("10: a first offer of the amount of the claim", Boxes.claimed().offer(1, 150), PegBox.NONE);
        outside("10: first amount", Boxes::claimed, 0, 150, Check.ARGUMENT, (x, value) -> x.offer(1, value));
    }

    private static void agreeClaim() {
        Check.due("11: the first claim", Boxes.claimed().agree(0), 0);
        PegBox full = Boxes.twenty();
        full.offer(18, 7);
        Check.due("11: the last open claim of 20", full.agree(18), 7 + 24);
        outside("11: claim", Boxes::claimed, 0, 3, Check.INDEX, (x, value) -> x.agree(value));
        outside("11: claim of 20", Boxes::twenty, 0, 19, Check.INDEX, (x, value) -> x.agree(value));
    }

    private static void decideClaim() {
        Check.due("12: the first claim", Boxes.claimed().decide(0, 60), 10);
        Check.due("12: the last open claim of 20", Boxes.twenty().decide(18, 23), 23 + 24);
        outside("12: claim", Boxes::claimed, 0, 3, Check.INDEX, (x, value) -> x.decide(value, 40));
        outside("12: claim of 20", Boxes::twenty, 0, 19, Check.INDEX, (x, value) -> x.decide(value, 5));
    }

    private static void decideAmount() {
        for (int amount : new int[] {40, 60}) {
            PegBox x = Boxes.claimed();
            x.decide(0, amount);
            Check.due("12: from the offer to the amount of the claim", x.settledAt(0), amount);
        }
        outside("12: amount", Boxes::claimed, 40, 60, Check.ARGUMENT, (x, value) -> x.decide(0, value));
        for (int amount : new int[] {0, 150}) {
            PegBox x = Boxes.claimed();
            x.decide(1, amount);
            Check.due("12: from 0 to the amount of the claim", x.settledAt(1), amount);
        }
        outside("12: amount, no offer", Boxes::claimed, 0, 150, Check.ARGUMENT, (x, value) -> x.decide(1, value));
    }

    private static void result() {
        Check.due("13: result -10000000", owedBy(0, 0, 8, -M), 0);
        Check.due("13: result 10000000", owedBy(0, 0, 8, M), 8);
        outside("13: result", Boxes::oneTold, -M, M, Check.ARGUMENT, (x, value) -> x.report(value));
    }

    private static void dueOfKind() {
        PegBox x = Boxes.claimed();
        Check.due("24: kind 0", x.dueOf(0), 0);
        Check.due("24: kind 2", x.dueOf(2), 20);
        outside("24: kind", Boxes::claimed, 0, 2, Check.INDEX, (y, value) -> y.dueOf(value));
        outside("24: kind, not closed", PegBox::new, 0, 2, Check.INDEX, (y, value) -> y.dueOf(value));
    }

    private static void settledAtClaim() {
        PegBox x = Boxes.claimed();
        Check.due("26: the first claim", x.settledAt(0), PegBox.NONE);
        Check.due("26: the last claim", x.settledAt(3), 25);
        outside("26: claim", Boxes::claimed, 0, 3, Check.INDEX, (y, value) -> y.settledAt(value));
        Check.due("26: the last claim of 20", Boxes.twenty().settledAt(19), 24);
        outside("26: claim of 20", Boxes::twenty, 0, 19, Check.INDEX, (y, value) -> y.settledAt(value));
    }

    private static void isMetYear() {
        PegBox x = Boxes.spedUp();
        Check.due("27: year 0", x.isMet(0), false);
        Check.due("27: year 3", x.isMet(3), true);
        outside("27: year", Boxes::spedUp, 0, 3, Check.INDEX, (y, value) -> y.isMet(value));
        outside("27: year, not closed", PegBox::new, 0, 3, Check.INDEX, (y, value) -> y.isMet(value));
    }
}
