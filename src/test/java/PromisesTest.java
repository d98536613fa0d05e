/** Each promise by itself: ordinary inputs, the edges that the document names, and wrong inputs. */
public final class PromisesTest {
    private static final int FAR = Integer.MAX_VALUE;
    private static final int DEEP = Integer.MIN_VALUE;

    private static final Checks CHECK = new Checks();

    public static void main(String[] args) {
        newObject();
        well();
        watch();
        response();
        wellsAndWatches();
        pump();
        rest();
        pumped();
        beyond();
        drawdown();
        drawdownByPulses();
        worstMonth();
        over();
        headroom();
        headroomOfSeveralWatches();
        heaviest();
        taken();
        takenLate();
        licence();
        ratio();
        burden();
        trade();
        tradeRefusedByBurden();
        tradeRefusals();
        mostTraded();
        fullField();
        CHECK.end();
    }

    private static void due(String call, long want, long got) {
        CHECK.due(call, want, got);
    }

    /** Wells at the places, all of the zone 0 and with the licence 1000. */
    private static WellField withWells(int... places) {
        WellField f = new WellField();
        for (int place : places) {
            f.well(place, 0, 1000);
        }
        return f;
    }

    // Promise 1
    private static void newObject() {
        WellField f = new WellField();
        due("1 NONE", -1, WellField.NONE);
        due("1 wells", 0, f.wells());
        due("1 watches", 0, f.watches());
        for (int year = 0; year < 3; year++) {
            due("1 beyond", 0, f.beyond(year));
            due("1 taken", 0, f.taken(year));
        }
        CHECK.noIndex("1 licence(0)", () -> f.licence(0));
        CHECK.noIndex("1 burden(0)", () -> f.burden(0));
        for (int reach = 0; reach < 5; reach++) {
            for (int delay = 0; delay < 12; delay++) {
                due("1 response", 0, f.response(reach, delay, 0));
            }
        }
        for (int from = 0; from < 3; from++) {
            for (int to = 0; to < 3; to++) {
                due("1 ratio", 100, f.ratio(from, to, 100));
            }
        }
        f.well(0, 0, 0);
        due("1 another object has wells of its own", 0, new WellField().wells());
    }

    // Promise 2
    private static void well() {
        WellField f = new WellField();
        CHECK.noArgument("2 place -1", () -> f.well(-1, 0, 0));
        CHECK.noArgument("2 place 100", () -> f.well(100, 0, 0));
        CHECK.noArgument("2 zone -1", () -> f.well(0, -1, 0));
        CHECK.noArgument("2 zone 3", () -> f.well(0, 3, 0));
        CHECK.noArgument("2 licence -1", () -> f.well(0, 0, -1));
        CHECK.noArgument("2 licence 5001", () -> f.well(0, 0, 5001));
        CHECK.noArgument("2 far", () -> f.well(FAR, FAR, FAR));
        CHECK.noArgument("2 deep", () -> f.well(DEEP, DEEP, DEEP));
        due("2 none added", 0, f.wells());
        due("2 first", 0, f.well(0, 0, 0));
        due("2 second", 1, f.well(99, 2, 5000));
        due("2 same place again", 2, f.well(99, 1, 17));
        due("2 licence least", 0, f.licence(0));
        due("2 licence most", 5000, f.licence(1));
        due("2 licence", 17, f.licence(2));
        due("2 has not pumped", 0, f.pumped(2, 0) + f.pumped(2, 1) + f.pumped(2, 2));
        for (int well = 3; well < 8; well++) {
            due("2 number", well, f.well(50, 0, 1));
        }
        CHECK.noState("2 ninth", () -> f.well(50, 0, 1));
        CHECK.noArgument("2 ninth, and wrong", () -> f.well(100, 0, 1));
        due("2 eight", 8, f.wells());
    }

    // Promise 3
    private static void watch() {
        WellField f = new WellField();
        CHECK.noArgument("3 place -1", () -> f.watch(-1, 0));
        CHECK.noArgument("3 place 100", () -> f.watch(100, 0));
        CHECK.noArgument("3 limit -1", () -> f.watch(0, -1));
        CHECK.noArgument("3 limit 10001", () -> f.watch(0, 10001));
        due("3 none added", 0, f.watches());
        due("3 first", 0, f.watch(0, 0));
        due("3 second", 1, f.watch(99, 10000));
        due("3 third", 2, f.watch(0, 0));
        due("3 fourth", 3, f.watch(7, 7));
        CHECK.noState("3 fifth", () -> f.watch(0, 0));
        CHECK.noArgument("3 fifth, and wrong", () -> f.watch(0, 10001));
        due("3 four", 4, f.watches());
        due("3 wells", 0, f.wells());
    }

    // Promise 4
    private static void response() {
        WellField f = new WellField();
        CHECK.noIndex("4 reach -1", () -> f.response(-1, 0, 0));
        CHECK.noIndex("4 reach 5", () -> f.response(5, 0, 0));
        CHECK.noIndex("4 delay -1", () -> f.response(0, -1, 0));
        CHECK.noIndex("4 delay 12", () -> f.response(0, 12, 0));
        CHECK.noArgument("4 response -1", () -> f.response(0, 0, -1));
        CHECK.noArgument("4 response 1001", () -> f.response(0, 0, 1001));
        CHECK.noIndex("4 reach before response", () -> f.response(5, 0, 1001));
        CHECK.noIndex("4 delay before response", () -> f.response(0, 12, -1));
        due("4 first", 0, f.response(4, 11, 1000));
        due("4 before", 1000, f.response(4, 11, 3));
        CHECK.noArgument("4 too much", () -> f.response(4, 11, 1001));
        due("4 kept", 3, f.response(4, 11, 0));
        due("4 another delay", 0, f.response(4, 10, 5));
        due("4 another reach", 0, f.response(3, 11, 5));
    }

    // Promises 5 and 6
    private static void wellsAndWatches() {
        WellField f = new WellField();
        f.well(1, 1, 1);
        f.well(2, 2, 2);
        f.watch(3, 3);
        due("5 wells", 2, f.wells());
        due("6 watches", 1, f.watches());
    }

    // Promise 7
    private static void pump() {
        WellField f = withWells(10, 20);
        CHECK.noIndex("7 well -1", () -> f.pump(-1, 0, 0));
        CHECK.noIndex("7 well 2", () -> f.pump(2, 0, 0));
        CHECK.noIndex("7 well 8", () -> f.pump(8, 0, 0));
        CHECK.noIndex("7 month -1", () -> f.pump(0, -1, 0));
        CHECK.noIndex("7 month 36", () -> f.pump(0, 36, 0));
        CHECK.noArgument("7 units -1", () -> f.pump(0, 0, -1));
        CHECK.noArgument("7 units 1001", () -> f.pump(0, 0, 1001));
        CHECK.noIndex("7 well before units", () -> f.pump(2, 0, 1001));
        CHECK.noIndex("7 month before units", () -> f.pump(0, 36, -1));
        due("7 first", 0, f.pump(0, 35, 1000));
        due("7 before", 1000, f.pump(0, 35, 4));
        CHECK.noArgument("7 too much", () -> f.pump(0, 35, 1001));
        due("7 corrected, not added", 4, f.pumped(0, 2));
        due("7 another well", 0, f.pump(1, 35, 9));
        due("7 kept", 4, f.pump(0, 35, 0));
    }

    // Promise 8
    private static void rest() {
        WellField f = withWells(10, 20);
        for (int month = 0; month < 36; month++) {
            f.pump(0, month, month + 1);
            f.pump(1, month, 500);
        }
        CHECK.noIndex("8 well -1", () -> f.rest(-1, 0, 1));
        CHECK.noIndex("8 well 2", () -> f.rest(2, 0, 1));
        CHECK.noIndex("8 month -1", () -> f.rest(0, -1, 1));
        CHECK.noIndex("8 month 36", () -> f.rest(0, 36, 1));
        CHECK.noArgument("8 months 0", () -> f.rest(0, 0, 0));
        CHECK.noArgument("8 months 37", () -> f.rest(0, 0, 37));
        CHECK.noArgument("8 months far", () -> f.rest(0, 35, FAR));
        CHECK.noIndex("8 month before months", () -> f.rest(0, 36, 0));
        CHECK.noIndex("8 well before months", () -> f.rest(2, 0, 37));
        due("8 nothing rested", 666, f.pumped(0, 0) + f.pumped(0, 1) + f.pumped(0, 2));
        due("8 one month", 6, f.rest(0, 5, 1));
        due("8 the month behind stays", 7, f.pump(0, 6, 7));
        due("8 the month before stays", 5, f.pump(0, 4, 5));
        due("8 again", 0, f.rest(0, 5, 1));
        due("8 two months", 7 + 8, f.rest(0, 6, 2));
        due("8 behind the month 35", 35 + 36, f.rest(0, 34, 36));
        due("8 all", 666 - 6 - 15 - 71, f.rest(0, 0, 36));
        due("8 another well", 6000, f.pumped(1, 0));
        due("8 the last month", 500, f.rest(1, 35, 1));
    }

    // Promise 9
    private static void pumped() {
        WellField f = withWells(10, 20);
        f.pump(0, 0, 1);
        f.pump(0, 11, 2);
        f.pump(0, 12, 4);
        f.pump(0, 23, 8);
        f.pump(0, 24, 16);
        f.pump(0, 35, 32);
        due("9 year 0", 3, f.pumped(0, 0));
        due("9 year 1", 12, f.pumped(0, 1));
        due("9 year 2", 48, f.pumped(0, 2));
        due("9 another well", 0, f.pumped(1, 0));
        CHECK.noIndex("9 well -1", () -> f.pumped(-1, 0));
        CHECK.noIndex("9 well 2", () -> f.pumped(2, 0));
        CHECK.noIndex("9 year -1", () -> f.pumped(0, -1));
        CHECK.noIndex("9 year 3", () -> f.pumped(0, 3));
    }

    // Promise 10
    private static void beyond() {
        WellField f = new WellField();
        f.well(90, 0, 100);
        f.well(90, 0, 50);
        f.well(90, 0, 0);
        f.pump(0, 0, 60);
        f.pump(0, 11, 40);
        f.pump(1, 3, 70);
        f.pump(2, 4, 5);
        due("10 each well by itself", 20 + 5, f.beyond(0));
        due("10 another year", 0, f.beyond(1));
        f.pump(0, 12, 101);
        due("10 one more", 1, f.beyond(1));
        f.trade(0, 1, 20);
        due("10 the licence of now", 20 + 0 + 5, f.beyond(0));
        CHECK.noIndex("10 year -1", () -> f.beyond(-1));
        CHECK.noIndex("10 year 3", () -> f.beyond(3));
    }

    // Promise 11
    private static void drawdown() {
        WellField f = withWells(40, 19, 99, 90);
        f.watch(50, 1);
        f.watch(49, 1);
        f.response(0, 0, 1);
        f.response(1, 0, 10);
        f.response(1, 11, 20);
        f.response(3, 2, 30);
        f.response(4, 1, 40);
        f.pump(0, 3, 100);
        f.pump(1, 3, 7);
        f.pump(2, 4, 1000);
        due("11 the reach 1 of a distance of 10", 1000, f.drawdown(0, 3));
        due("11 the reach 0 of a distance of 9", 100, f.drawdown(1, 3));
        due("11 the reaches 3 and 4", 7 * 30 + 1000 * 40, f.drawdown(0, 5));
        due("11 beyond the reach 4", 7 * 30, f.drawdown(1, 5));
        due("11 nothing before", 0, f.drawdown(0, 2));
        due("11 the delay 11", 2000, f.drawdown(0, 14));
        due("11 no delay 12", 0, f.drawdown(0, 15));
        f.pump(0, 35, 1000);
        due("11 the last month", 10000, f.drawdown(0, 35));
        f.rest(0, 0, 36);
        due("11 rested", 0, f.drawdown(0, 35));
        indicesOfDrawdown();
    }

    private static void indicesOfDrawdown() {
        WellField f = withWells(0);
        f.watch(0, 1);
        CHECK.noIndex("11 watch -1", () -> f.drawdown(-1, 0));
        CHECK.noIndex("11 watch 1", () -> f.drawdown(1, 0));
        CHECK.noIndex("11 month -1", () -> f.drawdown(0, -1));
        CHECK.noIndex("11 month 36", () -> f.drawdown(0, 36));
        CHECK.noIndex("12 watch -1", () -> f.drawdownByPulses(-1, 0));
        CHECK.noIndex("12 watch 1", () -> f.drawdownByPulses(1, 0));
        CHECK.noIndex("12 month -1", () -> f.drawdownByPulses(0, -1));
        CHECK.noIndex("12 month 36", () -> f.drawdownByPulses(0, 36));
    }

    // Promise 12, and 11 at its greatest
    private static void drawdownByPulses() {
        WellField f = withWells(0, 1, 2, 3, 4, 5, 6, 7);
        f.watch(8, 1);
        f.watch(60, 1);
        for (int delay = 0; delay < 12; delay++) {
            f.response(0, delay, 1000);
        }
        for (int well = 0; well < 8; well++) {
            for (int month = 0; month < 36; month++) {
                f.pump(well, month, 1000);
            }
        }
        for (int month = 0; month < 36; month++) {
            long want = 8L * Math.min(12, month + 1) * 1000 * 1000;
            due("12 month " + month, want, f.drawdownByPulses(0, month));
            due("11 month " + month, want, f.drawdown(0, month));
        }
        due("12 another watch", 0, f.drawdownByPulses(1, 35));
        due("12 the first month once more", 8000000, f.drawdownByPulses(0, 0));
        due("12 the same once more", 96000000, f.drawdownByPulses(0, 35));
    }

    // Promise 13
    private static void worstMonth() {
        WellField f = withWells(0);
        f.watch(0, 0);
        f.watch(99, 0);
        due("13 nothing pumped", 0, f.worstMonth(0));
        f.response(0, 0, 5);
        f.response(0, 1, 5);
        f.pump(0, 0, 2);
        due("13 the first month", 0, f.worstMonth(0));
        f.response(0, 1, 6);
        due("13 the second month", 1, f.worstMonth(0));
        f.response(0, 1, 5);
        f.pump(0, 20, 3);
        due("13 of several the first", 20, f.worstMonth(0));
        f.response(0, 1, 6);
        due("13 the greatest", 21, f.worstMonth(0));
        f.pump(0, 35, 4);
        due("13 the last month", 35, f.worstMonth(0));
        due("13 another watch", 0, f.worstMonth(1));
        CHECK.noIndex("13 watch -1", () -> f.worstMonth(-1));
        CHECK.noIndex("13 watch 2", () -> f.worstMonth(2));
    }

    // Promise 14
    private static void over() {
        WellField f = withWells(0);
        f.watch(0, 1);
        f.watch(0, 0);
        f.response(0, 0, 100);
        f.response(0, 11, 1);
        f.pump(0, 0, 10);
        f.pump(0, 35, 11);
        due("14 more than the limit", 1, f.over(0));
        due("14 a limit of 0", 3, f.over(1));
        f.pump(0, 35, 10);
        due("14 just the limit", 0, f.over(0));
        overTheGreatestLimit();
        CHECK.noIndex("14 watch -1", () -> f.over(-1));
        CHECK.noIndex("14 watch 2", () -> f.over(2));
    }

    private static void overTheGreatestLimit() {
        WellField f = withWells(0);
        f.watch(0, 10000);
        for (int delay = 0; delay < 10; delay++) {
            f.response(0, delay, 1000);
        }
        for (int month = 0; month < 36; month++) {
            f.pump(0, month, 1000);
        }
        due("14 just the greatest limit", 0, f.over(0));
        f.response(0, 11, 1);
        due("14 more than the greatest limit", 36 - 11, f.over(0));
    }

    // Promise 15
    private static void headroom() {
        WellField f = withWells(0, 60);
        due("15 no watch", 1000, f.headroom(0, 0));
        f.watch(0, 2);
        due("15 no number above 0", 1000, f.headroom(0, 0));
        f.response(0, 0, 300);
        due("15 rounded down", 6, f.headroom(0, 0));
        due("15 a well that lowers nothing", 1000, f.headroom(1, 0));
        f.response(0, 11, 1000);
        due("15 the delay 11", 2, f.headroom(0, 24));
        due("15 behind the month 35", 6, f.headroom(0, 25));
        f.pump(0, 13, 3);
        due("15 lowered already", 1, f.headroom(0, 2));
        due("15 over its limit 11 months on", 0, f.headroom(0, 13));
        due("15 over its limit in that month", 0, f.headroom(0, 24));
        due("15 not over it where it is lowered", 2, f.headroom(0, 12));
        due("15 told, not changed", 3, f.pumped(0, 1));
        CHECK.noIndex("15 well -1", () -> f.headroom(-1, 0));
        CHECK.noIndex("15 well 2", () -> f.headroom(2, 0));
        CHECK.noIndex("15 month -1", () -> f.headroom(0, -1));
        CHECK.noIndex("15 month 36", () -> f.headroom(0, 36));
    }

    private static void headroomOfSeveralWatches() {
        WellField f = withWells(0);
        f.watch(0, 10000);
        f.watch(15, 10000);
        f.watch(99, 0);
        f.response(0, 0, 1);
        f.pump(0, 7, 400);
        due("15 what the well could pump at most", 600, f.headroom(0, 7));
        f.pump(0, 7, 1000);
        due("15 it pumps the most already", 0, f.headroom(0, 7));
        f.watch(15, 5);
        f.response(1, 3, 500);
        due("15 the tightest watch", 10, f.headroom(0, 0));
        f.pump(0, 0, 10);
        due("15 just at the limit", 0, f.headroom(0, 0));
        due("15 the limit is reached", 5000, f.drawdown(3, 3));
        due("15 another month", 10, f.headroom(0, 1));
        headroomByTheNumberOne();
    }

    private static void headroomByTheNumberOne() {
        WellField f = withWells(0);
        f.watch(0, 0);
        f.response(0, 0, 1);
        due("15 the limit is 0", 0, f.headroom(0, 7));
        f.pump(0, 7, 400);
        due("15 over it already", 0, f.headroom(0, 7));
        f.response(0, 0, 0);
        due("15 the number is 0 again", 600, f.headroom(0, 7));
    }

    // Promise 16
    private static void heaviest() {
        WellField f = withWells(0, 20, 9, 90);
        f.watch(5, 1);
        f.watch(49, 1);
        due("16 no response", -1, f.heaviest(0, 24));
        f.response(0, 5, 1);
        f.pump(0, 0, 1);
        due("16 by one thousandth", 0, f.heaviest(0, 0));
        f.pump(0, 0, 0);
        f.response(0, 5, 0);
        f.response(0, 0, 10);
        f.response(0, 11, 100);
        f.response(1, 0, 60);
        due("16 nothing pumped", -1, f.heaviest(0, 24));
        f.pump(3, 24, 1000);
        due("16 none lowers it", -1, f.heaviest(0, 24));
        f.pump(1, 24, 18);
        due("16 the only one", 1, f.heaviest(0, 24));
        due("16 an earlier month", -1, f.heaviest(0, 0));
        f.pump(0, 24, 10);
        due("16 over all months", 0, f.heaviest(0, 24));
        f.pump(2, 24, 10);
        due("16 of several the lowest", 0, f.heaviest(0, 24));
        f.pump(2, 24, 11);
        due("16 the heaviest is not the first", 2, f.heaviest(0, 24));
        f.pump(0, 25, 11);
        f.pump(1, 25, 2);
        due("16 up to the month 35", 1, f.heaviest(0, 25));
        due("16 another watch", -1, f.heaviest(1, 24));
        due("16 another month", -1, f.heaviest(0, 26));
        CHECK.noIndex("16 watch -1", () -> f.heaviest(-1, 0));
        CHECK.noIndex("16 watch 2", () -> f.heaviest(2, 0));
        CHECK.noIndex("16 month -1", () -> f.heaviest(0, -1));
        CHECK.noIndex("16 month 36", () -> f.heaviest(0, 36));
    }

    // Promise 17
    private static void taken() {
        WellField f = withWells(4, 5, 99);
        f.pump(0, 0, 1);
        due("17 the first month", 1, f.taken(0));
        f.pump(0, 0, 0);
        f.pump(0, 11, 5);
        due("17 half, rounded up", 3, f.taken(0));
        due("17 the other ones behind", 2, f.taken(1));
        f.pump(0, 12, 5);
        due("17 each month is halved by itself", 7, f.taken(1));
        f.pump(1, 10, 9);
        due("17 a delay of 1", 8, f.taken(0));
        due("17 and the other ones", 11, f.taken(1));
        f.pump(2, 4, 101);
        due("17 a delay of 19", 62, f.taken(1));
        due("17 two years on", 50, f.taken(2));
        f.pump(2, 16, 7);
        due("17 half behind the month 35", 54, f.taken(2));
        f.pump(2, 17, 1000);
        due("17 all behind the month 35", 54, f.taken(2));
        f.pump(0, 35, 1);
        due("17 one unit is taken at once", 55, f.taken(2));
        due("17 the year 0 as it was", 8, f.taken(0));
        CHECK.noIndex("17 year -1", () -> f.taken(-1));
        CHECK.noIndex("17 year 3", () -> f.taken(3));
    }

    // Promise 18
    private static void takenLate() {
        WellField f = withWells(10, 99);
        f.pump(0, 0, 40);
        due("18 nothing is earlier than the year 0", 0, f.takenLate(0, 0));
        f.pump(0, 9, 7);
        due("18 the other half is late", 3, f.takenLate(0, 1));
        f.pump(0, 11, 5);
        f.pump(0, 12, 100);
        due("18 not what it pumped in that year", 8, f.takenLate(0, 1));
        f.pump(0, 21, 9);
        due("18 of the year before", 4, f.takenLate(0, 2));
        f.pump(1, 4, 21);
        f.pump(1, 13, 4);
        due("18 a year later", 11, f.takenLate(1, 1));
        due("18 of all earlier years", 10 + 4, f.takenLate(1, 2));
        f.pump(1, 16, 9);
        due("18 not behind the month 35", 10 + 4 + 5, f.takenLate(1, 2));
        CHECK.noIndex("18 well -1", () -> f.takenLate(-1, 0));
        CHECK.noIndex("18 well 2", () -> f.takenLate(2, 0));
        CHECK.noIndex("18 year -1", () -> f.takenLate(0, -1));
        CHECK.noIndex("18 year 3", () -> f.takenLate(0, 3));
    }

    // Promise 19
    private static void licence() {
        WellField f = new WellField();
        f.well(0, 0, 12);
        f.well(0, 0, 34);
        due("19 first", 12, f.licence(0));
        due("19 second", 34, f.licence(1));
        f.pump(0, 0, 1000);
        due("19 pumping uses none of it", 12, f.licence(0));
        CHECK.noIndex("19 well -1", () -> f.licence(-1));
        CHECK.noIndex("19 well 2", () -> f.licence(2));
    }

    // Promise 20
    private static void ratio() {
        WellField f = new WellField();
        CHECK.noIndex("20 from -1", () -> f.ratio(-1, 0, 1));
        CHECK.noIndex("20 from 3", () -> f.ratio(3, 0, 1));
        CHECK.noIndex("20 to -1", () -> f.ratio(0, -1, 1));
        CHECK.noIndex("20 to 3", () -> f.ratio(0, 3, 1));
        CHECK.noArgument("20 ratio -1", () -> f.ratio(0, 0, -1));
        CHECK.noArgument("20 ratio 201", () -> f.ratio(0, 0, 201));
        CHECK.noIndex("20 from before ratio", () -> f.ratio(3, 0, 201));
        CHECK.noIndex("20 to before ratio", () -> f.ratio(0, 3, -1));
        due("20 first", 100, f.ratio(0, 2, 200));
        due("20 before", 200, f.ratio(0, 2, 0));
        due("20 the other way", 100, f.ratio(2, 0, 7));
        due("20 kept", 0, f.ratio(0, 2, 1));
        due("20 the same zone", 100, f.ratio(1, 1, 50));
        f.well(0, 1, 10);
        f.well(0, 1, 0);
        due("20 the same zone counts", 5, f.trade(0, 1, 10));
    }

    // Promise 21
    private static void burden() {
        WellField f = new WellField();
        f.well(0, 0, 3);
        f.well(50, 1, 5000);
        f.well(99, 2, 5000);
        f.watch(9, 1);
        f.watch(50, 0);
        due("21 no response", 0, f.burden(0));
        f.response(0, 0, 10);
        f.response(0, 11, 7);
        due("21 all twelve together", 51, f.burden(0));
        f.response(4, 6, 2);
        due("21 the reach 4", 10051, f.burden(0));
        due("21 another watch", 85000 + 10000, f.burden(1));
        f.pump(0, 0, 1000);
        due("21 pumping is no burden", 10051, f.burden(0));
        f.response(0, 0, 9);
        due("21 the table of now", 48 + 10000, f.burden(0));
        f.ratio(0, 2, 0);
        f.trade(0, 2, 1);
        due("21 the licence of now", 32 + 10000, f.burden(0));
        CHECK.noIndex("21 watch -1", () -> f.burden(-1));
        CHECK.noIndex("21 watch 2", () -> f.burden(2));
    }

    // Promise 22
    private static void trade() {
        WellField f = new WellField();
        f.well(0, 0, 100);
        f.well(50, 1, 10);
        f.ratio(0, 1, 85);
        due("22 rounded down", 5, f.trade(0, 1, 7));
        due("22 taken from the one", 93, f.licence(0));
        due("22 added to the other one", 15, f.licence(1));
        due("22 the other way", 15, f.trade(1, 0, 15));
        due("22 all of a licence", 0, f.licence(1));
        due("22 added", 108, f.licence(0));
        f.ratio(0, 1, 200);
        due("22 more is got than given", 6, f.trade(0, 1, 3));
        f.ratio(0, 1, 0);
        due("22 nothing is got", 0, f.trade(0, 1, 5));
        due("22 given all the same", 100, f.licence(0));
        due("22 kept", 6, f.licence(1));
    }

    private static void tradeRefusedByBurden() {
        WellField f = new WellField();
        f.well(0, 0, 1000);
        f.well(20, 0, 1000);
        f.watch(5, 0);
        f.watch(25, 0);
        f.response(0, 2, 100);
        f.response(1, 3, 50);
        f.response(2, 4, 50);
        due("22 burden", 150000, f.burden(0));
        CHECK.noState("22 one of two watches is worse off", () -> f.trade(0, 1, 1));
        f.ratio(0, 0, 50);
        due("22 one watch better, the other as before", 5, f.trade(0, 1, 10));
        due("22 better", 150000 - 10 * 100 + 5 * 50, f.burden(0));
        due("22 as before", 150000, f.burden(1));
        f.ratio(0, 0, 51);
        CHECK.noState("22 a watch is worse off by little", () -> f.trade(0, 1, 100));
        due("22 nothing given", 990, f.licence(0));
        due("22 nothing got", 1005, f.licence(1));
        due("22 rounding saves", 5, f.trade(0, 1, 11));
    }

    private static void tradeRefusals() {
        WellField f = new WellField();
        f.well(0, 0, 5000);
        f.well(0, 0, 5000);
        f.well(0, 0, 5000);
        CHECK.noIndex("22 from -1", () -> f.trade(-1, 0, 1));
        CHECK.noIndex("22 from 3", () -> f.trade(3, 0, 1));
        CHECK.noIndex("22 to -1", () -> f.trade(0, -1, 1));
        CHECK.noIndex("22 to 3", () -> f.trade(0, 3, 1));
        CHECK.noIndex("22 no such wells before the same", () -> f.trade(3, 3, 1));
        CHECK.noIndex("22 no such well before units", () -> f.trade(0, 3, 0));
        CHECK.noArgument("22 the same", () -> f.trade(1, 1, 1));
        CHECK.noArgument("22 units 0", () -> f.trade(0, 1, 0));
        CHECK.noArgument("22 units -1", () -> f.trade(0, 1, -1));
        CHECK.noArgument("22 units 5001", () -> f.trade(0, 1, 5001));
        CHECK.noArgument("22 units far", () -> f.trade(0, 1, FAR));
        f.ratio(0, 0, 200);
        due("22 5000 units", 10000, f.trade(0, 1, 5000));
        CHECK.noState("22 the licence is less", () -> f.trade(0, 1, 1));
        CHECK.noArgument("22 units before the licence", () -> f.trade(0, 1, 5001));
        CHECK.noState("22 above 20000", () -> f.trade(2, 1, 2501));
        due("22 nothing given", 5000, f.licence(2));
        due("22 just 20000", 5000, f.trade(2, 1, 2500));
        due("22 20000", 20000, f.licence(1));
        CHECK.noState("22 one more", () -> f.trade(2, 1, 1));
        f.ratio(0, 0, 1);
        due("22 none more", 0, f.trade(2, 1, 99));
    }

    // Promise 23
    private static void mostTraded() {
        WellField f = new WellField();
        f.well(0, 0, 101);
        f.well(10, 1, 0);
        due("23 the whole licence", 101, f.mostTraded(0, 1));
        due("23 no licence", 0, f.mostTraded(1, 0));
        f.watch(0, 0);
        f.response(0, 5, 2);
        f.response(1, 7, 3);
        due("23 a greater burden", 0, f.mostTraded(0, 1));
        f.ratio(0, 1, 67);
        due("23 though fewer could not", 101, f.mostTraded(0, 1));
        CHECK.noState("23 fewer could not", () -> f.trade(0, 1, 100));
        due("23 told, not traded", 101, f.licence(0));
        due("23 it can be made", 1, f.trade(0, 1, 2));
        due("23 the burden as it stands does not matter", 99, f.mostTraded(0, 1));
        mostTradedAtItsEdges();
        CHECK.noIndex("23 from -1", () -> f.mostTraded(-1, 0));
        CHECK.noIndex("23 from 2", () -> f.mostTraded(2, 0));
        CHECK.noIndex("23 to -1", () -> f.mostTraded(0, -1));
        CHECK.noIndex("23 to 2", () -> f.mostTraded(0, 2));
        CHECK.noIndex("23 no such wells before the same", () -> f.mostTraded(2, 2));
        CHECK.noArgument("23 the same", () -> f.mostTraded(1, 1));
    }

    private static void mostTradedAtItsEdges() {
        WellField f = new WellField();
        f.well(0, 0, 5000);
        f.well(0, 1, 5000);
        f.well(0, 0, 5000);
        f.well(0, 2, 0);
        f.ratio(0, 1, 200);
        f.trade(0, 1, 4000);
        due("23 units of one trade", 5000, f.mostTraded(1, 3));
        due("23 up to 20000", 3500, f.mostTraded(2, 1));
        f.trade(2, 1, 3500);
        due("23 20000", 20000, f.licence(1));
        due("23 no more above 20000", 0, f.mostTraded(2, 1));
        f.ratio(0, 1, 3);
        due("23 as long as nothing is got", 33, f.mostTraded(2, 1));
    }

    // Every promise once more, with as many wells and watches as can be
    private static void fullField() {
        WellField f = new WellField();
        for (int well = 0; well < 8; well++) {
            f.well(well * 10, well % 3, 100 * well);
            f.pump(well, 3, 100 + well);
        }
        for (int watch = 0; watch < 4; watch++) {
            f.watch(watch * 10, 1);
        }
        for (int delay = 0; delay < 12; delay++) {
            f.response(4, delay, 1);
        }
        fieldOfMany(f);
        for (int bad : new int[] {-1, 8, FAR, DEEP}) {
            CHECK.noIndex("7 full", () -> f.pump(bad, 0, 0));
            CHECK.noIndex("15 full", () -> f.headroom(bad, 0));
            CHECK.noIndex("19 full", () -> f.licence(bad));
            CHECK.noIndex("22 full, from", () -> f.trade(bad, 0, 1));
            CHECK.noIndex("23 full, to", () -> f.mostTraded(0, bad));
        }
        for (int bad : new int[] {-1, 4, FAR, DEEP}) {
            CHECK.noIndex("11 full", () -> f.drawdown(bad, 0));
            CHECK.noIndex("13 full", () -> f.worstMonth(bad));
            CHECK.noIndex("16 full", () -> f.heaviest(bad, 0));
            CHECK.noIndex("21 full", () -> f.burden(bad));
        }
    }

    private static void fieldOfMany(WellField f) {
        due("10 full", 100 + 1, f.beyond(0));
        due("11 full, by one well", 107, f.drawdown(3, 14));
        due("12 full, by one well", 104, f.drawdownByPulses(0, 14));
        due("13 full", 3, f.worstMonth(3));
        due("14 full", 0, f.over(3));
        due("15 full, the last well", 1000 - 107, f.headroom(7, 3));
        due("16 full, the last well", 7, f.heaviest(3, 3));
        due("17 full", 100 + 101 + 102 + 103 + 52, f.taken(0));
        due("17 full, with the last well", 52 + 105 + 106 + 107, f.taken(1));
        due("18 full, the last well", 107, f.takenLate(7, 1));
        due("21 full", 700 * 12, f.burden(3));
        CHECK.noState("22 full, the last watch", () -> f.trade(4, 7, 1));
        due("22 full, the last well", 10, f.trade(7, 0, 10));
        due("23 full", 100, f.mostTraded(1, 2));
    }
}
