import java.util.Random;

/** Long runs of calls by a fixed seed, each answer held against the model's. */
public final class ModelTest {
    private static final int RUNS = 300;
    private static final int CALLS = 512;

    private static final String[] NAMES = {
        "well", "watch", "response", "wells", "watches", "pump", "rest", "pumped", "beyond",
        "drawdown", "drawdownByPulses", "worstMonth", "over", "headroom", "heaviest", "taken",
        "takenLate", "licence", "ratio", "burden", "trade", "mostTraded"};

    /** How often each name is called, of 100 or so. */
    private static final int[] WEIGHTS = {
        3, 2, 12, 1, 1, 25, 1, 3, 3, 5, 5, 4, 4, 8, 6, 4, 5, 3, 4, 3, 8, 1};

    private final Random random;
    /** The greatest number that a response takes in this run: small ones leave headroom. */
    private final int responseMost;
    private final int unitsMost;

    private ModelTest(int seed) {
        random = new Random(seed);
        responseMost = new int[] {3, 30, 300, 1000}[random.nextInt(4)];
        unitsMost = new int[] {3, 20, 200, 1000}[random.nextInt(4)];
    }

    public static void main(String[] args) {
        int faults = 0;
        for (int seed = 1; seed <= RUNS && faults == 0; seed++) {
            faults = new ModelTest(seed).run(seed);
        }
        System.out.println(RUNS + " runs, " + faults + " answers not as due");
        System.exit(faults == 0 ? 0 : 1);
    }

    private int run(int seed) {
        WellField field = new WellField();
        Model model = new Model();
        for (int k = 0; k < CALLS; k++) {
            String name = pick();
            int[] a = {-9, -9, -9};
            fill(name, a);
            String want = answer(() -> model.call(name, a));
            String got = answer(() -> call(field, name, a));
            if (!want.equals(got)) {
                System.out.println("seed " + seed + ", call " + k + ": " + name + "(" + a[0] + ", "
                        + a[1] + ", " + a[2] + ") answered " + got + ", due is " + want);
                return 1;
            }
        }
        return 0;
    }

    private interface Call {
        long make();
    }

    private static String answer(Call call) {
        try {
            return Long.toString(call.make());
        } catch (RuntimeException e) {
            return e.getClass().getName();
        }
    }

    private String pick() {
        int sum = 0;
        for (int weight : WEIGHTS) {
            sum += weight;
        }
        int at = random.nextInt(sum);
        for (int k = 0; k < NAMES.length; k++) {
            at -= WEIGHTS[k];
            if (at < 0) {
                return NAMES[k];
            }
        }
        return NAMES[0];
    }

    /** A number of a range; now and then its edge, or one outside it. */
    private int in(int least, int most) {
        return switch (random.nextInt(60)) {
            case 0 -> least;
            case 1, 2, 3 -> most;
            case 4 -> random.nextInt(4) == 0 ? least - 1 : least;
            case 5 -> random.nextInt(4) == 0 ? most + 1 : most;
            case 6 -> random.nextInt(20) == 0 ? random.nextInt() : most;
            default -> least + random.nextInt(most - least + 1);
        };
    }

    private void fill(String name, int[] a) {
        switch (name) {
            case "well" -> set(a, in(0, random.nextBoolean() ? 99 : 40), in(0, 2), in(0, 5000));
            case "watch" -> set(a, in(0, 60), in(0, random.nextBoolean() ? 100 : 10000), 0);
            case "response" -> set(a, in(0, 4), in(0, 11), number(responseMost, 1000));
            case "pump" -> set(a, in(0, 7), in(0, 35), number(unitsMost, 1000));
            case "rest" -> set(a, in(0, 7), in(0, 35), in(1, 36));
            case "pumped", "takenLate" -> set(a, in(0, 7), in(0, 2), 0);
            case "beyond", "taken" -> set(a, in(0, 2), 0, 0);
            case "drawdown", "drawdownByPulses", "heaviest" -> set(a, in(0, 3), in(0, 35), 0);
            case "worstMonth", "over", "burden" -> set(a, in(0, 3), 0, 0);
            case "headroom" -> set(a, in(0, 7), in(0, 35), 0);
            case "licence" -> set(a, in(0, 7), 0, 0);
            case "ratio" -> set(a, in(0, 2), in(0, 2), in(0, 200));
            case "trade" -> set(a, in(0, 7), in(0, 7), number(300, 5000));
            case "mostTraded" -> set(a, in(0, 7), in(0, 7), 0);
            default -> { }
        }
    }

    private int number(int mostly, int most) {
        return random.nextInt(8) == 0 ? in(0, most) : in(0, mostly);
    }

    private static void set(int[] a, int first, int second, int third) {
        a[0] = first;
        a[1] = second;
        a[2] = third;
    }

    private static long call(WellField f, String name, int[] a) {
        return switch (name) {
            case "well" -> f.well(a[0], a[1], a[2]);
            case "watch" -> f.watch(a[0], a[1]);
            case "response" -> f.response(a[0], a[1], a[2]);
            case "wells" -> f.wells();
            case "watches" -> f.watches();
            case "pump" -> f.pump(a[0], a[1], a[2]);
            case "rest" -> f.rest(a[0], a[1], a[2]);
            case "pumped" -> f.pumped(a[0], a[1]);
            case "beyond" -> f.beyond(a[0]);
            case "drawdown" -> f.drawdown(a[0], a[1]);
            case "drawdownByPulses" -> f.drawdownByPulses(a[0], a[1]);
            case "worstMonth" -> f.worstMonth(a[0]);
            case "over" -> f.over(a[0]);
            case "headroom" -> f.headroom(a[0], a[1]);
            case "heaviest" -> f.heaviest(a[0], a[1]);
            case "taken" -> f.taken(a[0]);
            case "takenLate" -> f.takenLate(a[0], a[1]);
            case "licence" -> f.licence(a[0]);
            case "ratio" -> f.ratio(a[0], a[1], a[2]);
            case "burden" -> f.burden(a[0]);
            case "trade" -> f.trade(a[0], a[1], a[2]);
            case "mostTraded" -> f.mostTraded(a[0], a[1]);
            default -> throw new UnsupportedOperationException(name);
        };
    }
}
