import java.util.ArrayList;
import java.util.HashMap;
import java.util.List;
import java.util.Map;

/** The document's words once more, as slowly and plainly as can be, to hold the class against. */
final class Model {
    private record Well(int place, int zone) { }

    private record Watch(int place, int limit) { }

    private final List<Well> wells = new ArrayList<>();
    private final List<Watch> watches = new ArrayList<>();
    private final List<Integer> licences = new ArrayList<>();
    /** By well * 100 + month. */
    private final Map<Integer, Integer> pumping = new HashMap<>();
    /** By reach * 100 + delay. */
    private final Map<Integer, Integer> table = new HashMap<>();
    /** By from * 100 + to. */
    private final Map<Integer, Integer> ratios = new HashMap<>();

    long call(String name, int[] a) {
        return switch (name) {
            case "well" -> well(a[0], a[1], a[2]);
            case "watch" -> watch(a[0], a[1]);
            case "response" -> response(a[0], a[1], a[2]);
            case "wells" -> wells.size();
            case "watches" -> watches.size();
            case "pump" -> pump(a[0], a[1], a[2]);
            case "rest" -> rest(a[0], a[1], a[2]);
            case "pumped" -> pumped(a[0], a[1]);
            case "beyond" -> beyond(a[0]);
            case "drawdown", "drawdownByPulses" -> drawdown(a[0], a[1]);
            case "worstMonth" -> worstMonth(a[0]);
            case "over" -> over(a[0]);
            case "headroom" -> headroom(a[0], a[1]);
            case "heaviest" -> heaviest(a[0], a[1]);
            case "taken" -> taken(a[0]);
            case "takenLate" -> takenLate(a[0], a[1]);
            case "licence" -> licence(a[0]);
            case "ratio" -> ratio(a[0], a[1], a[2]);
            case "burden" -> burden(a[0]);
            case "trade" -> trade(a[0], a[1], a[2]);
            case "mostTraded" -> mostTraded(a[0], a[1]);
            default -> throw new UnsupportedOperationException(name);
        };
    }

    private static void index(boolean there) {
        if (!there) {
            throw new IndexOutOfBoundsException();
        }
    }

    private static void argument(boolean right) {
        if (!right) {
            throw new IllegalArgumentException();
        }
    }

    private static void state(boolean right) {
        if (!right) {
            throw new IllegalStateException();
        }
    }

    private static boolean from(int least, int value, int most) {
        return least <= value && value <= most;
    }

    private boolean isWell(int well) {
        return from(0, well, wells.size() - 1);
    }

    private boolean isWatch(int watch) {
        return from(0, watch, watches.size() - 1);
    }

    private int units(int well, int month) {
        return pumping.getOrDefault(well * 100 + month, 0);
    }

    private int number(int well, int watch, int delay) {
        int distance = wells.get(well).place() - watches.get(watch).place();
        int reach = (distance < 0 ? -distance : distance) / 10;
        return delay < 0 || delay > 11 ? 0 : table.getOrDefault(reach * 100 + delay, 0);
    }

    private long lowered(int watch, int month) {
        long sum = 0;
        for (int well = 0; well < wells.size(); well++) {
            for (int m = 0; m <= 35; m++) {
                sum += (long) units(well, m) * number(well, watch, month - m);
            }
        }
        return sum;
    }

    private boolean isOver(int watch, int month) {
        return lowered(watch, month) > 1000L * watches.get(watch).limit();
    }

    private long well(int place, int zone, int licence) {
        argument(from(0, place, 99) && from(0, zone, 2) && from(0, licence, 5000));
        state(wells.size() < 8);
        wells.add(new Well(place, zone));
        licences.add(licence);
        return wells.size() - 1;
    }

    private long watch(int place, int limit) {
        argument(from(0, place, 99) && from(0, limit, 10000));
        state(watches.size() < 4);
        watches.add(new Watch(place, limit));
        return watches.size() - 1;
    }

    private static int before(Integer old, int first) {
        return old == null ? first : old;
    }

    private long response(int reach, int delay, int response) {
        index(from(0, reach, 4) && from(0, delay, 11));
        argument(from(0, response, 1000));
        return before(table.put(reach * 100 + delay, response), 0);
    }

    private long pump(int well, int month, int units) {
        index(isWell(well) && from(0, month, 35));
        argument(from(0, units, 1000));
        return before(pumping.put(well * 100 + month, units), 0);
    }

    private long rest(int well, int month, int months) {
        index(isWell(well) && from(0, month, 35));
        argument(from(1, months, 36));
        long sum = 0;
        for (int m = month; m <= 35; m++) {
            if (m < month + months) {
                sum += before(pumping.remove(well * 100 + m), 0);
            }
        }
        return sum;
    }

    private long pumped(int well, int year) {
        index(isWell(well) && from(0, year, 2));
        long sum = 0;
        for (int m = 0; m <= 35; m++) {
            sum += m / 12 == year ? units(well, m) : 0;
        }
        return sum;
    }

    private long beyond(int year) {
        index(from(0, year, 2));
        long sum = 0;
        for (int well = 0; well < wells.size(); well++) {
            long more = pumped(well, year) - licences.get(well);
            sum += more > 0 ? more : 0;
        }
        return sum;
    }

    private long drawdown(int watch, int month) {
        index(isWatch(watch) && from(0, month, 35));
        return lowered(watch, month);
    }

    private long worstMonth(int watch) {
        index(isWatch(watch));
        int worst = 35;
        for (int m = 35; m >= 0; m--) {
            worst = lowered(watch, m) >= lowered(watch, worst) ? m : worst;
        }
        return worst;
    }

    private long over(int watch) {
        index(isWatch(watch));
        long months = 0;
        for (int m = 0; m <= 35; m++) {
            months += isOver(watch, m) ? 1 : 0;
        }
        return months;
    }

    /** Is a watch over its limit where the well's pumping of the month lowers it? */
    private boolean harms(int well, int month) {
        for (int watch = 0; watch < watches.size(); watch++) {
            for (int m = month; m <= 35; m++) {
                if (number(well, watch, m - month) > 0 && isOver(watch, m)) {
                    return true;
                }
            }
        }
        return false;
    }

    /** Pumps more and more on trial, by halving: more can only harm where fewer do. */
    private long headroom(int well, int month) {
        index(isWell(well) && from(0, month, 35));
        int now = units(well, month);
        int good = 0;
        int bad = 1000 - now + 1;
        while (bad - good > 1) {
            int more = (good + bad) / 2;
            pumping.put(well * 100 + month, now + more);
            if (harms(well, month)) {
                bad = more;
            } else {
                good = more;
            }
        }
        pumping.put(well * 100 + month, now);
        return harms(well, month) ? 0 : good;
    }

    private long heaviest(int watch, int month) {
        index(isWatch(watch) && from(0, month, 35));
        long most = 0;
        int found = -1;
        for (int well = wells.size() - 1; well >= 0; well--) {
            long weight = 0;
            for (int m = month; m <= 35; m++) {
                weight += (long) units(well, month) * number(well, watch, m - month);
            }
            if (weight > 0 && weight >= most) {
                most = weight;
                found = well;
            }
        }
        return found;
    }

    /** Unit by unit: the odd ones at once, the even ones a month behind. */
    private long takenOf(int well, int firstMonth, int lastMonth, int year) {
        long sum = 0;
        for (int m = firstMonth; m <= lastMonth; m++) {
            for (int unit = 1; unit <= units(well, m); unit++) {
                int when = m + wells.get(well).place() / 5 + (unit % 2 == 1 ? 0 : 1);
                sum += when >= 12 * year && when <= 12 * year + 11 ? 1 : 0;
            }
        }
        return sum;
    }

    private long taken(int year) {
        index(from(0, year, 2));
        long sum = 0;
        for (int well = 0; well < wells.size(); well++) {
            sum += takenOf(well, 0, 35, year);
        }
        return sum;
    }

    private long takenLate(int well, int year) {
        index(isWell(well) && from(0, year, 2));
        return takenOf(well, 0, 12 * year - 1, year);
    }

    private long licence(int well) {
        index(isWell(well));
        return licences.get(well);
    }

    private long ratio(int from, int to, int ratio) {
        index(from(0, from, 2) && from(0, to, 2));
        argument(from(0, ratio, 200));
        return before(ratios.put(from * 100 + to, ratio), 100);
    }

    private long burden(int watch) {
        index(isWatch(watch));
        long sum = 0;
        for (int well = 0; well < wells.size(); well++) {
            for (int delay = 0; delay <= 11; delay++) {
                sum += (long) licences.get(well) * number(well, watch, delay);
            }
        }
        return sum;
    }

    private List<Long> burdens() {
        List<Long> all = new ArrayList<>();
        for (int watch = 0; watch < watches.size(); watch++) {
            all.add(burden(watch));
        }
        return all;
    }

    private int got(int from, int to, int units) {
        int zones = wells.get(from).zone() * 100 + wells.get(to).zone();
        return units * ratios.getOrDefault(zones, 100) / 100;
    }

    /** Moves the licences on trial, looks at the burdens, and moves them back. */
    private boolean allowed(int from, int to, int units, List<Long> before) {
        int giver = licences.get(from);
        int getter = licences.get(to);
        if (giver < units || getter + got(from, to, units) > 20000) {
            return false;
        }
        licences.set(from, giver - units);
        licences.set(to, getter + got(from, to, units));
        List<Long> after = burdens();
        licences.set(from, giver);
        licences.set(to, getter);
        for (int watch = 0; watch < after.size(); watch++) {
            if (after.get(watch) > before.get(watch)) {
                return false;
            }
        }
        return true;
    }

    private long trade(int from, int to, int units) {
        index(isWell(from) && isWell(to));
        argument(from != to && from(1, units, 5000));
        state(allowed(from, to, units, burdens()));
        int got = got(from, to, units);
        licences.set(from, licences.get(from) - units);
        licences.set(to, licences.get(to) + got);
        return got;
    }

    private long mostTraded(int from, int to) {
        index(isWell(from) && isWell(to));
        argument(from != to);
        List<Long> before = burdens();
        long most = 0;
        for (int units = 1; units <= 5000; units++) {
            most = allowed(from, to, units, before) ? units : most;
        }
        return most;
    }
}
