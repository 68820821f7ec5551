import java.util.ArrayList;
import java.util.List;

/**
 * A second settlement for ModelTest and GridTest to compare with, built otherwise on purpose: it goes through each day,
 * keeps a ledger of payments, and reckons every answer anew out of lists and longs.
 */
final class Model {
    record Part(long amount, int day) {
    }

    record Kind(long least, long basket, boolean isWhole, long cap, int lastDay) {
    }

    record Year(long target, long amount) {
    }

    /** A refused call, by the exception's name. */
    static final class Refused extends Exception {
        private static final long serialVersionUID = 1L;
        final String name;

        Refused(String name) {
            this.name = name;
        }
    }

    static final class Claim {
        int kind;
        long amount;
        final List<Long> offers = new ArrayList<>();
        Long settled;
    }

    long price;
    long peg;
    long collar;
    boolean isCarried;
    final Part[] parts = {new Part(0, 0), new Part(0, 0), new Part(0, 0), new Part(0, 0)};
    final Kind[] kinds = {none(), none(), none()};
    final Year[] years = {new Year(0, 0), new Year(0, 0), new Year(0, 0), new Year(0, 0)};
    Integer day;
    long finalPrice;
    final List<Claim> claims = new ArrayList<>();
    final List<Long> results = new ArrayList<>();
    final List<Integer> met = new ArrayList<>();
    boolean isSpedUp;
    final List<Long> toSellerFromPrice = new ArrayList<>();
    final List<Long> toSellerFromEarnOut = new ArrayList<>();
    final List<Long> toBuyer = new ArrayList<>();
    final List<Long> setOffs = new ArrayList<>();

    private static Kind none() {
        return new Kind(0, 0, false, 0, 0);
    }

    private static long sum(List<Long> list) {
        long sum = 0;
        for (long each : list) {
            sum += each;
        }
        return sum;
    }

    private static void index(boolean isThere) throws Refused {
        if (!isThere) {
            throw new Refused(Check.INDEX);
        }
    }

    private static void argument(boolean isRight) throws Refused {
        if (!isRight) {
            throw new Refused(Check.ARGUMENT);
        }
    }

    private static void state(boolean isRight) throws Refused {
        if (!isRight) {
            throw new Refused(Check.STATE);
        }
    }

    private static boolean in(long value, long least, long most) {
        return least <= value && value <= most;
    }

    /** Answers what the call of that number answers; 0 for the terms. */
    long call(int number, int[] a) throws Refused {
        switch (number) {
            case Calls.SET_PRICE: return setPrice(a[0], a[1], a[2]);
            case Calls.SET_PART: return setPart(a[0], a[1], a[2]);
            case Calls.SET_KIND: return setKind(a[0], a[1], a[2], (a[5] & 1) == 1, a[3], a[4]);
            case Calls.SET_YEAR: return setYear(a[0], a[1], a[2]);
            case Calls.SET_CARRY: return setCarry((a[0] & 1) == 1);
            case Calls.CLOSE: return close(a[0], a[1], a[2]);
            case Calls.ADVANCE: return advance(a[0]);
            case Calls.CLAIM: return claim(a[0], a[1]);
            case Calls.OFFER: return offer(a[0], a[1]);
            case Calls.AGREE: return agree(a[0]);
            case Calls.DECIDE: return decide(a[0], a[1]);
            case Calls.REPORT: return report(a[0]);
            default: return speedUp();
        }
    }

    private long setPrice(int price, int peg, int collar) throws Refused {
        argument(in(price, 0, 10_000_000) && in(peg, -10_000_000, 10_000_000) && in(collar, 0, 10_000_000));
        state(day == null);
        this.price = price;
        this.peg = peg;
        this.collar = collar;
        return 0;
    }

    private long setPart(int part, int amount, int day) throws Refused {
        index(in(part, 0, 3));
        argument(in(amount, 0, 10_000_000) && in(day, 1, 2000));
        state(this.day == null);
        parts[part] = new Part(amount, day);
        return 0;
    }

    private long setKind(int kind, int least, int basket, boolean isWhole, int cap, int lastDay) throws Refused {
        index(in(kind, 0, 2));
        argument(in(least, 0, 10_000_000) && in(basket, 0, 10_000_000));
        argument(in(cap, 0, 100_000_000) && in(lastDay, 0, 2000));
        state(day == null);
        kinds[kind] = new Kind(least, basket, isWhole, cap, lastDay);
        return 0;
    }

    private long setYear(int year, int target, int amount) throws Refused {
        index(in(year, 0, 3));
        argument(in(target, 0, 10_000_000) && in(amount, 0, 10_000_000));
        state(day == null);
        years[year] = new Year(target, amount);
        return 0;
    }

    private long setCarry(boolean isCarried) throws Refused {
        state(day == null);
        this.isCarried = isCarried;
        return 0;
    }

    private long close(int cash, int debt, int capital) throws Refused {
        argument(in(cash, 0, 10_000_000) && in(debt, 0, 10_000_000) && in(capital, -10_000_000, 10_000_000));
        state(day == null);
        day = 0;
        long difference = capital - peg;
        long beyond = Math.signum((float) difference) < 0
                ? Math.min(0, difference + collar) : Math.max(0, difference - collar);
        finalPrice = Math.max(0, price + cash - debt + beyond);
        long all = 0;
        for (Part part : parts) {
            all += part.amount();
        }
        toSellerFromPrice.add(finalPrice - Math.min(all, finalPrice));
        return finalPrice;
    }

    private long advance(int days) throws Refused {
        argument(in(days, 1, 400));
        state(day != null && day + days <= 4000);
        for (int i = 0; i < days; i++) {
            day++;
            free();
        }
        return day;
    }

    private long claim(int kind, int amount) throws Refused {
        index(in(kind, 0, 2));
        argument(in(amount, 1, 10_000_000));
        state(day != null && day <= kinds[kind].lastDay() && claims.size() < 20);
        Claim claim = new Claim();
        claim.kind = kind;
        claim.amount = amount;
        claims.add(claim);
        return claims.size() - 1;
    }

    private Claim open(int claim) throws Refused {
        index(in(claim, 0, claims.size() - 1));
        state(claims.get(claim).settled == null);
        return claims.get(claim);
    }

    private long offer(int claim, int amount) throws Refused {
        Claim c = open(claim);
        argument(in(amount, 0, c.amount));
        c.offers.add((long) amount);
        return c.offers.size() == 1 ? -1 : c.offers.get(c.offers.size() - 2);
    }

    private static long lastOffer(Claim c) {
        return c.offers.isEmpty() ? 0 : c.offers.get(c.offers.size() - 1);
    }

    private long agree(int claim) throws Refused {
        Claim c = open(claim);
        state(!c.offers.isEmpty());
        c.settled = lastOffer(c);
        return giveBack();
    }

    private long decide(int claim, int amount) throws Refused {
        Claim c = open(claim);
        argument(in(amount, lastOffer(c), c.amount));
        c.settled = (long) amount;
        return giveBack();
    }

    private long giveBack() {
        long back = Math.min(outstanding(), held());
        toBuyer.add(back);
        free();
        return back;
    }

    private void free() {
        long kept = 0;
        for (Part part : parts) {
            kept += part.day() > day ? part.amount() : 0;
        }
        for (Claim c : claims) {
            kept += c.settled == null ? c.amount : 0;
        }
        if (held() > kept) {
            toSellerFromPrice.add(held() - kept);
        }
    }

    private long report(int result) throws Refused {
        argument(in(result, -10_000_000, 10_000_000));
        state(day != null && results.size() < 4 && !isSpedUp);
        results.add((long) result);
        int last = results.size() - 1;
        long targets = 0;
        for (int year = 0; year <= last; year++) {
            targets += years[year].target();
        }
        boolean isMetTogether = isCarried && sum(results) >= targets;
        List<Integer> now = new ArrayList<>();
        for (int year = 0; year <= last; year++) {
            boolean isMetAlone = year == last && result >= years[year].target();
            if (isMetAlone || isMetTogether) {
                now.add(year);
            }
        }
        return owe(now);
    }

    private long speedUp() throws Refused {
        state(day != null && !isSpedUp);
        isSpedUp = true;
        List<Integer> now = new ArrayList<>();
        for (int year = results.size(); year < 4; year++) {
            now.add(year);
        }
        return owe(now);
    }

    private long owe(List<Integer> now) {
        long amount = 0;
        for (int year : now) {
            if (!met.contains(year)) {
                met.add(year);
                amount += years[year].amount();
            }
        }
        long against = Math.min(amount, outstanding());
        setOffs.add(against);
        toSellerFromEarnOut.add(amount - against);
        return amount;
    }

    private long held() {
        return finalPrice - sum(toSellerFromPrice) - sum(toBuyer);
    }

    private long dueOf(int kind) {
        Kind k = kinds[kind];
        long sum = 0;
        for (Claim c : claims) {
            if (c.settled != null && c.kind == kind && c.settled >= k.least()) {
                sum += c.settled;
            }
        }
        long past = k.isWhole() ? (sum < k.basket() ? 0 : sum) : Math.max(0, sum - k.basket());
        return Math.min(k.cap(), past);
    }

    private long due() {
        return dueOf(0) + dueOf(1) + dueOf(2);
    }

    private long outstanding() {
        return due() - sum(toBuyer) - sum(setOffs);
    }

    /** In the form of Check.sums. */
    String sums() {
        return "day " + (day == null ? -1 : day) + " price " + (day == null ? -1 : finalPrice) + " held " + held()
                + " paid " + (sum(toSellerFromPrice) + sum(toSellerFromEarnOut)) + " returned " + sum(toBuyer)
                + " setOff " + sum(setOffs) + " owed " + (sum(setOffs) + sum(toSellerFromEarnOut)) + " due " + due()
                + " outstanding " + outstanding();
    }

    /** In the form of Check.all. */
    String all() {
        StringBuilder text = new StringBuilder(sums()).append(" dueOf");
        for (int kind = 0; kind < 3; kind++) {
            text.append(' ').append(dueOf(kind));
        }
        text.append(" claims ").append(claims.size()).append(" settledAt");
        for (Claim c : claims) {
            text.append(' ').append(c.settled == null ? -1 : c.settled);
        }
        text.append(" isMet");
        for (int year = 0; year < 4; year++) {
            text.append(' ').append(met.contains(year));
        }
        return text.toString();
    }
}
