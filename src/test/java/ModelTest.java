import java.util.Random;

/**
 * Runs of calls with fixed seeds, on PegBox and on Model at once: each answer, the sums at every third call, and all
 * that can be read in the end must agree. A run keeps under the 512 calls for which something is promised.
 */
public final class ModelTest {
    private static final int RUNS = 8000;
    private static final int CALLS = 110;
    private static final int[] EDGES = {-1, 0, 1, 3, 4, 20, 400, 401, 2000, 2001, 10_000_000, 10_000_001, -10_000_000,
        -10_000_001, 100_000_000, 100_000_001, Integer.MIN_VALUE, Integer.MAX_VALUE};

    private static long taken = 0;
    private static long returned = 0;
    private static long setOff = 0;

    public static void main(String[] args) {
        for (int run = 0; run < RUNS; run++) {
            if (!agrees(run)) {
                break;
            }
        }
        // Runs in which nothing happens would agree, too.
        Check.due("many calls are taken", taken > RUNS * 20L, true);
        Check.due("much is returned", returned > RUNS / 4, true);
        Check.due("much is set off", setOff > RUNS / 10, true);
        System.out.println("ModelTest: " + taken + " calls taken; runs with money returned " + returned
                + ", set off " + setOff);
        Check.end("ModelTest");
    }

    private static boolean agrees(int run) {
        Random random = new Random(run);
        PegBox box = new PegBox();
        Calls.Side one = Calls.side(box);
        Calls.Side other = Calls.side(new Model());
        int size = new int[] {4, 60, 1000, 10_000_000}[run % 4];
        for (int i = 0; i < CALLS; i++) {
            int call = pick(random, i);
            int[] a = arguments(random, call, size);
            String got = one.answer(call, a);
            String want = other.answer(call, a);
            taken += got.charAt(0) == '=' ? 1 : 0;
            if (i % 3 == run % 3) {
                got += " / " + one.sums();
                want += " / " + other.sums();
            }
            Check.same("run " + run + ", call " + i + " " + Calls.text(call, a), got, want);
            if (!got.equals(want)) {
                return false;
            }
        }
        returned += box.returned() > 0 ? 1 : 0;
        setOff += box.setOff() > 0 ? 1 : 0;
        String got = one.all();
        String want = other.all();
        Check.same("run " + run + ", all in the end", got, want);
        return got.equals(want);
    }

    /** Terms first; then mostly what happens, and rarely what is refused after closing. */
    private static int pick(Random random, int i) {
        if (random.nextInt(40) == 0) {
            return random.nextInt(Calls.COUNT);
        }
        if (i < 18) {
            return random.nextInt(Calls.CLOSE);
        }
        if (i == 18) {
            return Calls.CLOSE;
        }
        if (random.nextInt(25) == 0) {
            return Calls.REPORT;
        }
        if (random.nextInt(150) == 0) {
            return Calls.SPEED_UP;
        }
        int[] often = {Calls.ADVANCE, Calls.CLAIM, Calls.CLAIM, Calls.CLAIM, Calls.OFFER, Calls.OFFER, Calls.OFFER,
            Calls.AGREE, Calls.AGREE, Calls.DECIDE, Calls.DECIDE};
        return often[random.nextInt(often.length)];
    }

    private static int[] arguments(Random random, int call, int size) {
        int[] a = new int[6];
        for (int k = 0; k < a.length; k++) {
            a[k] = random.nextInt(size + 1);
        }
        shape(random, call, size, a);
        if (random.nextInt(25) == 0) {
            a[random.nextInt(5)] = EDGES[random.nextInt(EDGES.length)];
        }
        return a;
    }

    /** Brings the arguments near to what is taken, and to one another. */
    private static void shape(Random random, int call, int size, int[] a) {
        switch (call) {
            case Calls.SET_PRICE:
                a[1] = random.nextInt(2 * size + 1) - size;
                a[2] = random.nextInt(size / 2 + 1);
                break;
            case Calls.SET_PART:
                a[0] = random.nextInt(4);
                a[2] = 1 + random.nextInt(random.nextBoolean() ? 30 : 2000);
                break;
            case Calls.SET_KIND:
                a[0] = random.nextInt(3);
                a[1] /= 4;
                a[2] /= 2;
                a[3] *= 3;
                a[4] = random.nextInt(random.nextBoolean() ? 30 : 2001);
                break;
            case Calls.SET_YEAR:
                a[0] = random.nextInt(4);
                break;
            case Calls.CLOSE:
                a[1] /= 2;
                a[2] = random.nextInt(2 * size + 1) - size;
                break;
            case Calls.ADVANCE:
                a[0] = 1 + random.nextInt(random.nextInt(20) == 0 ? 400 : 5);
                break;
            case Calls.CLAIM:
                a[0] = random.nextInt(3);
                break;
            case Calls.OFFER:
                a[0] = random.nextInt(20);
                a[1] /= 2;
                break;
            case Calls.AGREE:
            case Calls.DECIDE:
                a[0] = random.nextInt(20);
                break;
            case Calls.REPORT:
                a[0] = random.nextInt(2 * size + 1) - size / 2;
                break;
            default:
                break;
        }
    }
}
