/** The settlement of a sale of a business. What each call promises stands in the document. */
public final class PegBox {
    /** None. */
    public static final int NONE = -1;

    private static final int PARTS = 4;
    private static final int KINDS = 3;
    private static final int YEARS = 4;
    private static final int MOST_CLAIMS = 20;
    private static final int MOST_MONEY = 10000000;
    private static final int MOST_CAP = 100000000;
    private static final int LAST_TERM_DAY = 2000;
    private static final int LAST_DAY = 4000;
    private static final int MOST_DAYS = 400;

    private final Escrow escrow;
    private final Kinds kinds;
    private final ClaimBook book;
    private final EarnOut earnOut;
    private int price;
    private int peg;
    private int collar;
    private int day;
    private int finalPrice;
    private int held;
    private int paid;
    private int returned;
    private int setOff;
    private int owed;

    /** Makes a settlement with terms of 0 in all that is not closed. */
    public PegBox() {
        escrow = new Escrow();
        kinds = new Kinds();
        book = new ClaimBook();
        earnOut = new EarnOut();
        day = NONE;
        finalPrice = NONE;
    }

    // ---- terms

    /** Sets the price, the peg and the collar. */
    public void setPrice(int price, int peg, int collar)
            throws IllegalArgumentException, IllegalStateException {
        checkRange(price, 0, MOST_MONEY);
        checkRange(peg, -MOST_MONEY, MOST_MONEY);
        checkRange(collar, 0, MOST_MONEY);
        checkNotClosed();
        this.price = price;
        this.peg = peg;
        this.collar = collar;
    }

    /** Sets a part of the escrow. */
    public void setPart(int part, int amount, int day)
            throws IndexOutOfBoundsException, IllegalArgumentException, IllegalStateException {
        checkNumber(part, PARTS);
        checkRange(amount, 0, MOST_MONEY);
        checkRange(day, 1, LAST_TERM_DAY);
        checkNotClosed();
        escrow.amounts[part] = amount;
        escrow.days[part] = day;
    }

    /** Sets a kind of claims. */
    public void setKind(int kind, int least, int basket, boolean isWhole, int cap, int lastDay)
            throws IndexOutOfBoundsException, IllegalArgumentException, IllegalStateException {
        checkNumber(kind, KINDS);
        checkRange(least, 0, MOST_MONEY);
        checkRange(basket, 0, MOST_MONEY);
        checkRange(cap, 0, MOST_CAP);
        checkRange(lastDay, 0, LAST_TERM_DAY);
        checkNotClosed();
        kinds.leasts[kind] = least;
        kinds.baskets[kind] = basket;
        kinds.wholes[kind] = isWhole;
        kinds.caps[kind] = cap;
        kinds.lastDays[kind] = lastDay;
    }

    /** Sets a year of the earn-out. */
    public void setYear(int year, int target, int amount)
            throws IndexOutOfBoundsException, IllegalArgumentException, IllegalStateException {
        checkNumber(year, YEARS);
        checkRange(target, 0, MOST_MONEY);
        checkRange(amount, 0, MOST_MONEY);
        checkNotClosed();
        earnOut.targets[year] = target;
        earnOut.amounts[year] = amount;
    }

    /** Says whether misses are carried. */
    public void setCarry(boolean isCarried) throws IllegalStateException {
        checkNotClosed();
        earnOut.isCarried = isCarried;
    }

    // ---- what happens

    /** Closes the sale; returns the final price. */
    public int close(int cash, int debt, int capital)
            throws IllegalArgumentException, IllegalStateException {
        checkRange(cash, 0, MOST_MONEY);
        checkRange(debt, 0, MOST_MONEY);
        checkRange(capital, -MOST_MONEY, MOST_MONEY);
        checkNotClosed();
        day = 0;
        finalPrice = Math.max(0, price + cash - debt + beyondCollar(capital - peg));
        held = Math.min(escrow.total(), finalPrice);
        paid = finalPrice - held;
        return finalPrice;
    }

    /** Lets days pass; returns the day then. */
    public int advance(int days) throws IllegalArgumentException, IllegalStateException {
        checkRange(days, 1, MOST_DAYS);
        checkClosed();
        if (day + days > LAST_DAY) {
            throw new IllegalStateException("the day would be too late");
        }
        // No claim is made or settled on the way, so freeing on the last of the days frees what each would have.
        day += days;
        free();
        return day;
    }

    /** The buyer makes a claim; returns its number. */
    public int claim(int kind, int amount)
            throws IndexOutOfBoundsException, IllegalArgumentException, IllegalStateException {
        checkNumber(kind, KINDS);
        checkRange(amount, 1, MOST_MONEY);
        checkClosed();
        if (day > kinds.lastDays[kind]) {
            throw new IllegalStateException("the last day of the kind is past");
        }
        int number = book.count;
        if (number >= MOST_CLAIMS) {
            throw new IllegalStateException("there are as many claims as there can be");
        }
        book.kinds[number] = kind;
        book.amounts[number] = amount;
        book.offers[number] = NONE;
        book.settled[number] = NONE;
        book.count = number + 1;
        return number;
    }

    /** The seller makes an offer; returns the offer before, or NONE. */
    public int offer(int claim, int amount)
            throws IndexOutOfBoundsException, IllegalStateException, IllegalArgumentException {
        checkNumber(claim, book.count);
        checkOpen(book.settled[claim]);
        checkRange(amount, 0, book.amounts[claim]);
        int before = book.offers[claim];
        book.offers[claim] = amount;
        return before;
    }

    /** The buyer agrees to the offer; returns what is returned to the buyer by that. */
    public int agree(int claim) throws IndexOutOfBoundsException, IllegalStateException {
        checkNumber(claim, book.count);
        checkOpen(book.settled[claim]);
        int offer = book.offers[claim];
        if (offer == NONE) {
            throw new IllegalStateException("there is no offer");
        }
        book.settled[claim] = offer;
        return payOut();
    }

    /** An expert settles a claim; returns what is returned to the buyer by that. */
    public int decide(int claim, int amount)
            throws IndexOutOfBoundsException, IllegalStateException, IllegalArgumentException {
        checkNumber(claim, book.count);
        checkOpen(book.settled[claim]);
        int offer = book.offers[claim];
        checkRange(amount, offer == NONE ? 0 : offer, book.amounts[claim]);
        book.settled[claim] = amount;
        return payOut();
    }

    /** Tells the result of the next year; returns what is owed by that. */
    public int report(int result) throws IllegalArgumentException, IllegalStateException {
        checkRange(result, -MOST_MONEY, MOST_MONEY);
        checkClosed();
        if (earnOut.isSpedUp) {
            throw new IllegalStateException("the earn-out was sped up");
        }
        if (earnOut.told >= YEARS) {
            throw new IllegalStateException("all years were told");
        }
        return owe(earnOut.tell(result));
    }

    /** Speeds the earn-out up; returns what is owed by that. */
    public int speedUp() throws IllegalStateException {
        checkClosed();
        if (earnOut.isSpedUp) {
            throw new IllegalStateException("the earn-out was sped up");
        }
        return owe(earnOut.hasten());
    }

    // ---- what there is

    /** Returns the day; NONE if it is not closed. */
    public int day() {
        return day;
    }

    /** Returns the final price; NONE if it is not closed. */
    public int finalPrice() {
        return finalPrice;
    }

    /** Returns what is held. */
    public int held() {
        return held;
    }

    /** Returns what was paid to the seller in all. */
    public int paid() {
        return paid;
    }

    /** Returns what was returned to the buyer out of the escrow. */
    public int returned() {
        return returned;
    }

    /** Returns what was set off against the earn-out. */
    public int setOff() {
        return setOff;
    }

    /** Returns what was owed by the earn-out so far, set off or not. */
    public int owed() {
        return owed;
    }

    /** Returns what is due of all kinds. */
    public int due() {
        return dueInAll();
    }

    /** Returns what is outstanding. */
    public int outstanding() {
        return leftOutstanding();
    }

    /** Returns what is due of a kind. */
    public int dueOf(int kind) throws IndexOutOfBoundsException {
        checkNumber(kind, KINDS);
        return dueOfKind(kind);
    }

    /** Returns the number of claims. */
    public int claims() {
        return book.count;
    }

    /** Returns at what a claim was settled; NONE if it is open. */
    public int settledAt(int claim) throws IndexOutOfBoundsException {
        checkNumber(claim, book.count);
        return book.settled[claim];
    }

    /** Returns whether a year was met so far, also by speeding up. */
    public boolean isMet(int year) throws IndexOutOfBoundsException {
        checkNumber(year, YEARS);
        return earnOut.met[year];
    }

    // ---- what the calls share

    private static void checkNumber(int number, int count) {
        if (number < 0 || number >= count) {
            throw new IndexOutOfBoundsException("there is no such number");
        }
    }

    private static void checkRange(int value, int least, int most) {
        if (value < least || value > most) {
            throw new IllegalArgumentException("an argument is out of range");
        }
    }

    private static void checkOpen(int settledAt) {
        if (settledAt != NONE) {
            throw new IllegalStateException("the claim is settled");
        }
    }

    private void checkNotClosed() {
        if (day != NONE) {
            throw new IllegalStateException("the sale is closed");
        }
    }

    private void checkClosed() {
        if (day == NONE) {
            throw new IllegalStateException("the sale is not closed");
        }
    }

    private int beyondCollar(int difference) {
        if (difference > collar) {
            return difference - collar;
        }
        if (difference < -collar) {
            return difference + collar;
        }
        return 0;
    }

    private int dueOfKind(int kind) {
        return kinds.limit(kind, book.settledSum(kind, kinds.leasts[kind]));
    }

    private int dueInAll() {
        int sum = 0;
        for (int kind = 0; kind < KINDS; kind++) {
            sum += dueOfKind(kind);
        }
        return sum;
    }

    private int leftOutstanding() {
        return dueInAll() - returned - setOff;
    }

    /** Returns to the buyer what the escrow can give, and only then frees: what is freed can't come back. */
    private int payOut() {
        int back = Math.min(leftOutstanding(), held);
        held -= back;
        returned += back;
        free();
        return back;
    }

    private void free() {
        int kept = escrow.totalAfter(day) + book.openSum();
        if (held > kept) {
            paid += held - kept;
            held = kept;
        }
    }

    private int owe(int amount) {
        int against = Math.min(amount, leftOutstanding());
        owed += amount;
        setOff += against;
        paid += amount - against;
        return amount;
    }

    /** The parts of the escrow, by their numbers. */
    private static final class Escrow {
        final int[] amounts;
        final int[] days;

        Escrow() {
            amounts = new int[PARTS];
            days = new int[PARTS];
        }

        int total() {
            int sum = 0;
            for (int part = 0; part < PARTS; part++) {
                sum += amounts[part];
            }
            return sum;
        }

        int totalAfter(int day) {
            int sum = 0;
            for (int part = 0; part < PARTS; part++) {
                if (days[part] > day) {
                    sum += amounts[part];
                }
            }
            return sum;
        }
    }

    /** The terms of the kinds of claims, by their numbers. */
    private static final class Kinds {
        final int[] leasts;
        final int[] baskets;
        final boolean[] wholes;
        final int[] caps;
        final int[] lastDays;

        Kinds() {
            leasts = new int[KINDS];
            baskets = new int[KINDS];
            wholes = new boolean[KINDS];
            caps = new int[KINDS];
            lastDays = new int[KINDS];
        }

        /** What basket and cap leave of a sum of settled claims. */
        int limit(int kind, int sum) {
            return Math.min(pastBasket(kind, sum), caps[kind]);
        }

        private int pastBasket(int kind, int sum) {
            int basket = baskets[kind];
            if (wholes[kind]) {
                return sum >= basket ? sum : 0;
            }
            return sum > basket ? sum - basket : 0;
        }
    }

    /** The claims in the order they were made; an offer or a settlement that is not there yet is NONE. */
    private static final class ClaimBook {
        final int[] kinds;
        final int[] amounts;
        final int[] offers;
        final int[] settled;
        int count;

        ClaimBook() {
            kinds = new int[MOST_CLAIMS];
            amounts = new int[MOST_CLAIMS];
            offers = new int[MOST_CLAIMS];
            settled = new int[MOST_CLAIMS];
        }

        int settledSum(int kind, int least) {
            int sum = 0;
            for (int claim = 0; claim < count; claim++) {
                if (kinds[claim] == kind && settled[claim] != NONE && settled[claim] >= least) {
                    sum += settled[claim];
                }
            }
            return sum;
        }

        int openSum() {
            int sum = 0;
            for (int claim = 0; claim < count; claim++) {
                if (settled[claim] == NONE) {
                    sum += amounts[claim];
                }
            }
            return sum;
        }
    }

    /** The years of the earn-out, and what was told of them. */
    private static final class EarnOut {
        final int[] targets;
        final int[] amounts;
        final boolean[] met;
        boolean isCarried;
        boolean isSpedUp;
        int told;
        int resultSum;
        int targetSum;

        EarnOut() {
            targets = new int[YEARS];
            amounts = new int[YEARS];
            met = new boolean[YEARS];
        }

        /** Tells the next year, which the caller knows to be there; answers what is owed by it. */
        int tell(int result) {
            int year = told;
            if (year >= YEARS) {
                return 0;
            }
            told = year + 1;
            resultSum += result;
            targetSum += targets[year];
            if (isCarried && resultSum >= targetSum) {
                return meet(0, told);
            }
            return result >= targets[year] ? meet(year, told) : 0;
        }

        int hasten() {
            isSpedUp = true;
            return meet(told, YEARS);
        }

        /** Meets the years from the first to the one before the end; answers the amounts of those not met before. */
        private int meet(int first, int end) {
            int sum = 0;
            for (int year = first; year < end; year++) {
                if (!met[year]) {
                    met[year] = true;
                    sum += amounts[year];
                }
            }
            return sum;
        }
    }
}
