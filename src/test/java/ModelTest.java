import java.util.Arrays;
import java.util.Random;

/** Runs of calls with fixed seeds, on PegBox and on Model at once: each answer and all that can be read must agree. */
public final class ModelTest {
    private static final int RUNS = 4000;
    private static final int CALLS = 160;
    private static final int[] EDGES = {-1, 0, 1, 3, 4, 20, 400, 401, 2000, 2001, 10_000_000, 10_000_001, -10_000_000,
        -10_000_001, 100_000_000, 100_000_001, Integer.MIN_VALUE, Integer.MAX_VALUE};
    private static final String[] NAMES = {"setPrice", "setPart", "setKind", "setYear", "setCarry", "close", "advance",
        "claim", "offer", "agree", "decide", "report", "speedUp"};

    private static long taken = 0;
    private static long returned = 0;
    private static long setOff = 0;

    public static void main(String[] args) {
        for (int run = 0; run < RUNS; run++) {
            if (!agrees(run)) {
                break;
            }
        }
        // Runs in which nothing happens would agree, too.
        Check.due("many calls are taken", taken > RUNS * 20L, true);
        Check.due("much is returned", returned > RUNS / 4, true);
        Check.due("much is set off", setOff > RUNS / 10, true);
        System.out.println("ModelTest: " + taken + " calls taken; runs with money returned " + returned
                + ", set off " + setOff);
        Check.end("ModelTest");
    }

    private static boolean agrees(int run) {
        Random random = new Random(run);
        PegBox box = new PegBox();
        Model model = new Model();
        int size = new int[] {4, 60, 1000, 10_000_000}[run % 4];
        for (int i = 0; i < CALLS; i++) {
            int number = pick(random, i);
            int[] a = arguments(random, number, size);
            String got = answerOf(box, number, a) + " / " + Check.all(box);
            String want = answerOf(model, number, a) + " / " + model.all();
            Check.same("run " + run + ", call " + i + " " + NAMES[number] + Arrays.toString(a), got, want);
            if (!got.equals(want)) {
                return false;
            }
            taken += got.charAt(0) == '=' ? 1 : 0;
        }
        returned += box.returned() > 0 ? 1 : 0;
        setOff += box.setOff() > 0 ? 1 : 0;
        return true;
    }

    /** Terms first; then mostly what happens, and rarely what is refused after closing. */
    private static int pick(Random random, int i) {
        if (random.nextInt(40) == 0) {
            return random.nextInt(NAMES.length);
        }
        if (i < 18) {
            return random.nextInt(5);
        }
        if (i == 18) {
            return 5;
        }
        int[] often = {6, 7, 7, 7, 8, 8, 8, 9, 9, 10, 10};
        if (random.nextInt(25) == 0) {
            return 11;
        }
        return random.nextInt(150) == 0 ? 12 : often[random.nextInt(often.length)];
    }

    private static int[] arguments(Random random, int number, int size) {
        int[] a = new int[6];
        for (int k = 0; k < a.length; k++) {
            a[k] = random.nextInt(size + 1);
        }
        switch (number) {
            case 0: a[1] = random.nextInt(2 * size + 1) - size; a[2] = random.nextInt(size / 2 + 1); break;
            case 1: a[0] = random.nextInt(4); a[2] = 1 + random.nextInt(random.nextBoolean() ? 30 : 2000); break;
            case 2: a[0] = random.nextInt(3); a[1] /= 4; a[2] /= 2; a[3] *= 3;
                a[4] = random.nextInt(random.nextBoolean() ? 30 : 2001); break;
            case 3: a[0] = random.nextInt(4); break;
            case 5: a[1] /= 2; a[2] = random.nextInt(2 * size + 1) - size; break;
            case 6: a[0] = 1 + random.nextInt(random.nextInt(20) == 0 ? 400 : 5); break;
            case 7: a[0] = random.nextInt(3); break;
            case 8: a[0] = random.nextInt(20); a[1] /= 2; break;
            case 9: case 10: a[0] = random.nextInt(20); break;
            case 11: a[0] = random.nextInt(2 * size + 1) - size / 2; break;
            default: break;
        }
        if (random.nextInt(25) == 0) {
            a[random.nextInt(5)] = EDGES[random.nextInt(EDGES.length)];
        }
        return a;
    }

    private static String answerOf(PegBox box, int number, int[] a) {
        try {
            return "=" + call(box, number, a);
        } catch (RuntimeException e) {
            return e.getClass().getSimpleName();
        }
    }

    private static String answerOf(Model model, int number, int[] a) {
        try {
            return "=" + model.call(number, a);
        } catch (Model.Refused e) {
            return e.name;
        }
    }

    private static long call(PegBox box, int number, int[] a) {
        switch (number) {
            case 0: box.setPrice(a[0], a[1], a[2]); return 0;
            case 1: box.setPart(a[0], a[1], a[2]); return 0;
            case 2: box.setKind(a[0], a[1], a[2], (a[5] & 1) == 1, a[3], a[4]); return 0;
            case 3: box.setYear(a[0], a[1], a[2]); return 0;
            case 4: box.setCarry((a[0] & 1) == 1); return 0;
            case 5: return box.close(a[0], a[1], a[2]);
            case 6: return box.advance(a[0]);
            case 7: return box.claim(a[0], a[1]);
            case 8: return box.offer(a[0], a[1]);
            case 9: return box.agree(a[0]);
            case 10: return box.decide(a[0], a[1]);
            case 11: return box.report(a[0]);
            default: return box.speedUp();
        }
    }
}
