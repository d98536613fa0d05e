import java.util.ArrayList;
import java.util.List;

/** Fields to make calls on, and all that can be read of one. Each stays under the 512 calls of an object. */
final class Fields {
    private static final int[] PLACES = {0, 12, 25, 33, 47, 58, 76, 99};

    private Fields() { }

    /** Wells at these places, all of the zone 0 and with the licence 1000. */
    static WellField wells(int... places) {
        WellField f = new WellField();
        for (int place : places) {
            f.well(place, 0, 1000);
        }
        return f;
    }

    static WellField empty() {
        return new WellField();
    }

    static WellField part() {
        return of(3, 2);
    }

    static WellField full() {
        return of(8, 4);
    }

    /** Wells and watches all along the line, with a table, with pumping up to the last month, with ratios. */
    private static WellField of(int wells, int watches) {
        WellField f = new WellField();
        for (int well = 0; well < wells; well++) {
            f.well(PLACES[well], well % 3, 600 * well);
            f.pump(well, 4 * well, 10 + well);
            f.pump(well, 35, 20 + well);
        }
        for (int watch = 0; watch < watches; watch++) {
            f.watch(30 * watch, watch);
        }
        for (int reach = 0; reach < 5; reach++) {
            f.response(reach, 0, 100 - 20 * reach);
            f.response(reach, 11, 1 + reach);
        }
        f.ratio(0, 1, 150);
        f.ratio(2, 2, 50);
        return f;
    }

    /** What the calls answer that change nothing. */
    static List<Long> asked(WellField f) {
        List<Long> all = new ArrayList<>();
        add(all, f.wells(), f.watches());
        for (int year = 0; year < 3; year++) {
            add(all, f.beyond(year), f.taken(year));
        }
        for (int watch = 0; watch < f.watches(); watch++) {
            askWatch(f, watch, all);
        }
        for (int well = 0; well < f.wells(); well++) {
            askWell(f, well, all);
        }
        return all;
    }

    private static void askWatch(WellField f, int watch, List<Long> all) {
        add(all, f.worstMonth(watch), f.over(watch), f.burden(watch), f.heaviest(watch, 0), f.heaviest(watch, 35));
        for (int month = 0; month < 36; month++) {
            add(all, f.drawdown(watch, month));
        }
    }

    private static void askWell(WellField f, int well, List<Long> all) {
        add(all, f.licence(well), f.headroom(well, 0), f.headroom(well, 24), f.headroom(well, 35));
        for (int year = 0; year < 3; year++) {
            add(all, f.pumped(well, year), f.takenLate(well, year));
        }
        for (int other = 0; other < f.wells(); other++) {
            if (other != well) {
                add(all, f.mostTraded(well, other));
            }
        }
    }

    /** What the calls answer that return what was before, each told 0 anew. */
    static List<Long> emptied(WellField f) {
        List<Long> all = new ArrayList<>();
        for (int well = 0; well < f.wells(); well++) {
            for (int month = 0; month < 36; month++) {
                add(all, f.pump(well, month, 0));
            }
        }
        for (int reach = 0; reach < 5; reach++) {
            for (int delay = 0; delay < 12; delay++) {
                add(all, f.response(reach, delay, 0));
            }
        }
        for (int from = 0; from < 3; from++) {
            for (int to = 0; to < 3; to++) {
                add(all, f.ratio(from, to, 0));
            }
        }
        return all;
    }

    private static void add(List<Long> all, long... answers) {
        for (long answer : answers) {
            all.add(answer);
        }
    }
}
