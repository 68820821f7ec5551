/** Promises 1 to 6: a new object and the terms. */
public final class TermsTest {
    private static final int M = 10000000;

    public static void main(String[] args) {
        promise1();
        promise2();
        promise3();
        promise4();
        promise5();
        promise6();
        Check.end("TermsTest");
    }

    private static void promise1() {
        PegBox x = new PegBox();
        Check.same("1: a new object", Check.all(x), "day -1 price -1 held 0 paid 0 returned 0 setOff 0 owed 0 due 0"
                + " outstanding 0 dueOf 0 0 0 claims 0 settledAt isMet false false false false");
        Check.due("1: price, peg, collar and parts of 0", x.close(7, 0, 5), 12);
        Check.due("1: nothing is held", x.held(), 0);
        for (int kind = 0; kind < 3; kind++) {
            Check.due("1: a last day of 0 lets claim on day 0", x.claim(kind, 10), kind);
            x.decide(kind, 10);
            Check.due("1: a cap of 0", x.dueOf(kind), 0);
        }
        x.advance(1);
        for (int kind = 0; kind < 3; kind++) {
            int k = kind;
            Check.refused(x, "1: a last day of 0 is past on day 1", () -> x.claim(k, 10), Check.STATE);
        }
        Check.due("1: a target of 0 is missed by -1", x.report(-1), 0);
        Check.due("1: amounts of 0", x.report(1), 0);
        Check.due("1: misses are not carried", x.isMet(0), false);
        Check.due("1: a target of 0 is met by 1", x.isMet(1), true);

        PegBox y = new PegBox();
        y.setKind(0, 0, 5, false, 100, 0);
        y.close(0, 0, 0);
        y.claim(0, 9);
        y.decide(0, 9);
        Check.due("1: kinds are apart", y.due(), 4);
        PegBox z = new PegBox();
        z.close(0, 0, 0);
        Check.due("1: objects are apart", z.claims(), 0);
        Check.due("NONE", PegBox.NONE, -1);
    }

    private static void promise2() {
        PegBox x = new PegBox();
        Check.taken("2: the least of all", () -> x.setPrice(0, -M, 0));
        Check.taken("2: the most of all", () -> x.setPrice(M, M, M));
        Check.taken("2: the last one counts", () -> x.setPrice(500, -20, 3));
        Check.due("2: price, peg and collar", x.close(0, 0, 0), 500 + 20 - 3);
    }

    private static void promise3() {
        PegBox x = new PegBox();
        x.setPrice(M, 0, 0);
        for (int part = 0; part < 4; part++) {
            int p = part;
            Check.taken("3: the least of all", () -> x.setPart(p, 0, 1));
            Check.taken("3: the most of all", () -> x.setPart(p, M, 2000));
            Check.taken("3: the last one counts", () -> x.setPart(p, 100 + p, 10 * (p + 1)));
        }
        x.close(0, 0, 0);
        Check.due("3: all parts are held", x.held(), 406);
        x.advance(10);
        Check.due("3: part 0 has its day", x.held(), 306);
        x.advance(10);
        Check.due("3: part 1 has its day", x.held(), 205);
        x.advance(10);
        Check.due("3: part 2 has its day", x.held(), 103);
        x.advance(9);
        Check.due("3: not before the day", x.held(), 103);
        x.advance(1);
        Check.due("3: part 3 has its day", x.held(), 0);
    }

    private static void promise4() {
        PegBox x = new PegBox();
        for (int kind = 0; kind < 3; kind++) {
            int k = kind;
            Check.taken("4: the least of all", () -> x.setKind(k, 0, 0, false, 0, 0));
            Check.taken("4: the most of all", () -> x.setKind(k, M, M, true, 10 * M, 2000));
        }
        x.setKind(0, 5, 10, false, 100, 3);
        x.setKind(1, 6, 20, true, 200, 2);
        x.setKind(2, 7, 30, true, 40, 1);
        x.close(0, 0, 0);
        for (int i = 0; i < 3; i++) {
            for (int kind = 0; kind < 3; kind++) {
                x.decide(x.claim(kind, 6 + 11 * i), 6 + 11 * i);
            }
        }
        Check.due("4: kind 0", x.dueOf(0), 6 + 17 + 28 - 10);
        Check.due("4: kind 1", x.dueOf(1), 6 + 17 + 28);
        Check.due("4: kind 2", x.dueOf(2), 40);
        x.advance(2);
        Check.due("4: last day 3", x.claim(0, 1), 9);
        Check.due("4: last day 2", x.claim(1, 1), 10);
        Check.refused(x, "4: last day 1", () -> x.claim(2, 1), Check.STATE);
    }

    private static void promise5() {
        PegBox x = new PegBox();
        for (int year = 0; year < 4; year++) {
            int y = year;
            Check.taken("5: the least of all", () -> x.setYear(y, 0, 0));
            Check.taken("5: the most of all", () -> x.setYear(y, M, M));
            Check.taken("5: the last one counts", () -> x.setYear(y, 10 + y, 100 + y));
        }
        x.close(0, 0, 0);
        Check.due("5: year 0", x.report(10), 100);
        Check.due("5: year 1", x.report(10), 0);
        Check.due("5: year 2", x.report(12), 102);
        Check.due("5: year 3", x.report(13), 103);
    }

    private static void promise6() {
        for (int way = 0; way < 4; way++) {
            PegBox x = new PegBox();
            x.setYear(0, 10, 1);
            x.setYear(1, 10, 2);
            boolean isCarried = way % 2 == 1;
            Check.taken("6: another one before", () -> x.setCarry(!isCarried));
            Check.taken("6: the last one counts", () -> x.setCarry(isCarried));
            x.close(0, 0, 0);
            boolean other = way < 2;
            Check.refused(x, "6: closed", () -> x.setCarry(other), Check.STATE);
            x.report(9);
            Check.due("6: whether misses are carried", x.report(11), isCarried ? 3 : 2);
        }
    }
}
