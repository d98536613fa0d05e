// What each call answers is told by the document, ../shared/DOC.md, by the same names.
public final class WellField {

    public static final int NONE = -1;

    private static final int MONTHS = 36;
    private static final int MONTHS_OF_YEAR = 12;
    private static final int YEARS = 3;
    private static final int ZONES = 3;
    private static final int REACHES = 5;
    private static final int DELAYS = 12;
    private static final int PLACES_OF_REACH = 10;
    private static final int PLACES_OF_STREAM_DELAY = 5;
    private static final int WELLS_MOST = 8;
    private static final int WATCHES_MOST = 4;
    private static final int PLACE_MOST = 99;
    private static final int NEW_LICENCE_MOST = 5000;
    private static final int LIMIT_MOST = 10000;
    private static final int RESPONSE_MOST = 1000;
    private static final int UNITS_MOST = 1000;
    private static final int RATIO_FIRST = 100;
    private static final int RATIO_MOST = 200;
    private static final int TRADE_MOST = 5000;
    private static final int LICENCE_MOST = 20000;
    private static final int THOUSAND = 1000;
    private static final int HUNDRED = 100;

    private final int[] wellPlaces = new int[WELLS_MOST];
    private final int[] wellZones = new int[WELLS_MOST];
    private final int[] licences = new int[WELLS_MOST];
    private final int[][] pumping = new int[WELLS_MOST][MONTHS];
    private final int[] watchPlaces = new int[WATCHES_MOST];
    private final int[] limits = new int[WATCHES_MOST];
    private final int[][] table = new int[REACHES][DELAYS];
    // Kept beside the table, as mostTraded asks for these sums thousands of times in one call.
    private final int[] tableSums = new int[REACHES];
    private final int[][] ratios = new int[ZONES][ZONES];
    // Made once, as all calls of a run share one room.
    private final long[] pulses = new long[MONTHS];
    private int wellCount;
    private int watchCount;

    public WellField() {
        for (int from = 0; from < ZONES; from++) {
            for (int to = 0; to < ZONES; to++) {
                ratios[from][to] = RATIO_FIRST;
            }
        }
    }

    // ---- the field

    public int well(int place, int zone, int licence)
            throws IllegalArgumentException, IllegalStateException {
        needRange(place, 0, PLACE_MOST);
        needRange(zone, 0, ZONES - 1);
        needRange(licence, 0, NEW_LICENCE_MOST);
        needAllowed(wellCount < WELLS_MOST);
        int number = wellCount;
        wellPlaces[number] = place;
        wellZones[number] = zone;
        licences[number] = licence;
        wellCount = number + 1;
        return number;
    }

    public int watch(int place, int limit)
            throws IllegalArgumentException, IllegalStateException {
        needRange(place, 0, PLACE_MOST);
        needRange(limit, 0, LIMIT_MOST);
        needAllowed(watchCount < WATCHES_MOST);
        int number = watchCount;
        watchPlaces[number] = place;
        limits[number] = limit;
        watchCount = number + 1;
        return number;
    }

    public int response(int reach, int delay, int response)
            throws IndexOutOfBoundsException, IllegalArgumentException {
        needIndex(reach, REACHES);
        needIndex(delay, DELAYS);
        needRange(response, 0, RESPONSE_MOST);
        int before = table[reach][delay];
        table[reach][delay] = response;
        tableSums[reach] += response - before;
        return before;
    }

    public int wells() {
        return wellCount;
    }

    public int watches() {
        return watchCount;
    }

    // ---- pumping

    public int pump(int well, int month, int units)
            throws IndexOutOfBoundsException, IllegalArgumentException {
        needIndex(well, wellCount);
        needIndex(month, MONTHS);
        needRange(units, 0, UNITS_MOST);
        int before = pumping[well][month];
        pumping[well][month] = units;
        return before;
    }

    public int rest(int well, int month, int months)
            throws IndexOutOfBoundsException, IllegalArgumentException {
        needIndex(well, wellCount);
        needIndex(month, MONTHS);
        needRange(months, 1, MONTHS);
        int end = Math.min(month + months, MONTHS);
        int spared = 0;
        for (int m = month; m < end; m++) {
            spared += pumping[well][m];
            pumping[well][m] = 0;
        }
        return spared;
    }

    public int pumped(int well, int year) throws IndexOutOfBoundsException {
        needIndex(well, wellCount);
        needIndex(year, YEARS);
        return unitsOfYear(well, year);
    }

    public int beyond(int year) throws IndexOutOfBoundsException {
        needIndex(year, YEARS);
        int units = 0;
        for (int well = 0; well < wellCount; well++) {
            units += Math.max(0, unitsOfYear(well, year) - licences[well]);
        }
        return units;
    }

    // ---- drawdown

    public long drawdown(int watch, int month) throws IndexOutOfBoundsException {
        needIndex(watch, watchCount);
        needIndex(month, MONTHS);
        return loweredIn(watch, month);
    }

    public long drawdownByPulses(int watch, int month) throws IndexOutOfBoundsException {
        needIndex(watch, watchCount);
        needIndex(month, MONTHS);
        for (int m = 0; m < MONTHS; m++) {
            pulses[m] = 0;
        }
        for (int well = 0; well < wellCount; well++) {
            for (int m = 0; m < MONTHS; m++) {
                layPulse(reachOf(well, watch), m, pumping[well][m]);
            }
        }
        return pulses[month];
    }

    public int worstMonth(int watch) throws IndexOutOfBoundsException {
        needIndex(watch, watchCount);
        int worst = 0;
        long most = loweredIn(watch, 0);
        for (int month = 1; month < MONTHS; month++) {
            long lowered = loweredIn(watch, month);
            if (lowered > most) {
                most = lowered;
                worst = month;
            }
        }
        return worst;
    }

    public int over(int watch) throws IndexOutOfBoundsException {
        needIndex(watch, watchCount);
        int months = 0;
        for (int month = 0; month < MONTHS; month++) {
            if (thousandthsLeft(watch, month) < 0) {
                months++;
            }
        }
        return months;
    }

    public int headroom(int well, int month) throws IndexOutOfBoundsException {
        needIndex(well, wellCount);
        needIndex(month, MONTHS);
        long room = UNITS_MOST - pumping[well][month];
        for (int watch = 0; watch < watchCount; watch++) {
            room = Math.min(room, unitsLeft(watch, reachOf(well, watch), month));
        }
        return (int) room;
    }

    public int heaviest(int watch, int month) throws IndexOutOfBoundsException {
        needIndex(watch, watchCount);
        needIndex(month, MONTHS);
        int heaviest = NONE;
        long most = 0;
        for (int well = 0; well < wellCount; well++) {
            long weight = loweredInAll(well, watch, month);
            if (weight > most) {
                most = weight;
                heaviest = well;
            }
        }
        return heaviest;
    }

    // ---- the stream

    public int taken(int year) throws IndexOutOfBoundsException {
        needIndex(year, YEARS);
        int units = 0;
        for (int well = 0; well < wellCount; well++) {
            units += takenOfMonthsBefore(well, MONTHS, year);
        }
        return units;
    }

    public int takenLate(int well, int year) throws IndexOutOfBoundsException {
        needIndex(well, wellCount);
        needIndex(year, YEARS);
        return takenOfMonthsBefore(well, year * MONTHS_OF_YEAR, year);
    }

    // ---- licences

    public int licence(int well) throws IndexOutOfBoundsException {
        needIndex(well, wellCount);
        return licences[well];
    }

    public int ratio(int from, int to, int ratio)
            throws IndexOutOfBoundsException, IllegalArgumentException {
        needIndex(from, ZONES);
        needIndex(to, ZONES);
        needRange(ratio, 0, RATIO_MOST);
        int before = ratios[from][to];
        ratios[from][to] = ratio;
        return before;
    }

    public long burden(int watch) throws IndexOutOfBoundsException {
        needIndex(watch, watchCount);
        long sum = 0;
        for (int well = 0; well < wellCount; well++) {
            sum += burdenOfUnits(well, watch, licences[well]);
        }
        return sum;
    }

    public int trade(int from, int to, int units)
            throws IndexOutOfBoundsException, IllegalArgumentException, IllegalStateException {
        needTwoWells(from, to);
        needRange(units, 1, TRADE_MOST);
        needAllowed(canTrade(from, to, units));
        int got = unitsGot(from, to, units);
        licences[from] -= units;
        licences[to] += got;
        return got;
    }

    public int mostTraded(int from, int to)
            throws IndexOutOfBoundsException, IllegalArgumentException {
        needTwoWells(from, to);
        // Tried one by one: as what is got is rounded down, fewer units may fail where more do not.
        for (int units = Math.min(licences[from], TRADE_MOST); units > 0; units--) {
            if (canTrade(from, to, units)) {
                return units;
            }
        }
        return 0;
    }

    // ---- what the calls need

    private static void needIndex(int index, int count) throws IndexOutOfBoundsException {
        if (index < 0 || index >= count) {
            throw new IndexOutOfBoundsException("no such number");
        }
    }

    private static void needRange(int value, int least, int most) throws IllegalArgumentException {
        if (value < least || value > most) {
            throw new IllegalArgumentException("out of its range");
        }
    }

    private static void needAllowed(boolean allowed) throws IllegalStateException {
        if (!allowed) {
            throw new IllegalStateException("not allowed as things stand");
        }
    }

    private void needTwoWells(int from, int to)
            throws IndexOutOfBoundsException, IllegalArgumentException {
        needIndex(from, wellCount);
        needIndex(to, wellCount);
        if (from == to) {
            throw new IllegalArgumentException("both wells are the same");
        }
    }

    private int unitsOfYear(int well, int year) {
        int first = year * MONTHS_OF_YEAR;
        int units = 0;
        for (int m = first; m < first + MONTHS_OF_YEAR; m++) {
            units += pumping[well][m];
        }
        return units;
    }

    private int reachOf(int well, int watch) {
        return Math.abs(wellPlaces[well] - watchPlaces[watch]) / PLACES_OF_REACH;
    }

    private int tableNumber(int reach, int delay) {
        return reach < REACHES ? table[reach][delay] : 0;
    }

    private long loweredIn(int watch, int month) {
        long sum = 0;
        for (int well = 0; well < wellCount; well++) {
            int reach = reachOf(well, watch);
            for (int delay = 0; delay < DELAYS && delay <= month; delay++) {
                sum += (long) pumping[well][month - delay] * tableNumber(reach, delay);
            }
        }
        return sum;
    }

    private void layPulse(int reach, int month, int units) {
        for (int delay = 0; delay < DELAYS && month + delay < MONTHS; delay++) {
            pulses[month + delay] += (long) units * tableNumber(reach, delay);
        }
    }

    private long thousandthsLeft(int watch, int month) {
        return (long) THOUSAND * limits[watch] - loweredIn(watch, month);
    }

    private long unitsLeft(int watch, int reach, int month) {
        long room = UNITS_MOST;
        for (int delay = 0; delay < DELAYS && month + delay < MONTHS; delay++) {
            int number = tableNumber(reach, delay);
            if (number > 0) {
                room = Math.min(room, Math.max(0, thousandthsLeft(watch, month + delay)) / number);
            }
        }
        return room;
    }

    private long loweredInAll(int well, int watch, int month) {
        int reach = reachOf(well, watch);
        long sum = 0;
        for (int delay = 0; delay < DELAYS && month + delay < MONTHS; delay++) {
            sum += (long) pumping[well][month] * tableNumber(reach, delay);
        }
        return sum;
    }

    private int takenOfMonthsBefore(int well, int end, int year) {
        int delay = wellPlaces[well] / PLACES_OF_STREAM_DELAY;
        int units = 0;
        for (int m = 0; m < end; m++) {
            int second = pumping[well][m] / 2;
            int first = pumping[well][m] - second;
            units += isInYear(m + delay, year) ? first : 0;
            units += isInYear(m + delay + 1, year) ? second : 0;
        }
        return units;
    }

    private static boolean isInYear(int month, int year) {
        return month / MONTHS_OF_YEAR == year;
    }

    private long burdenOfUnits(int well, int watch, int units) {
        int reach = reachOf(well, watch);
        return reach < REACHES ? (long) units * tableSums[reach] : 0;
    }

    private int unitsGot(int from, int to, int units) {
        return units * ratios[wellZones[from]][wellZones[to]] / HUNDRED;
    }

    private boolean canTrade(int from, int to, int units) {
        int got = unitsGot(from, to, units);
        if (licences[from] < units || licences[to] + got > LICENCE_MOST) {
            return false;
        }
        for (int watch = 0; watch < watchCount; watch++) {
            if (burdenOfUnits(to, watch, got) > burdenOfUnits(from, watch, units)) {
                return false;
            }
        }
        return true;
    }
}
