/** The sentences under 'Terms', but for those that tell of the interface alone (FaceEdges). */
final class TermsEdges extends Edges {
    TermsEdges(Sentences sentences) {
        super(sentences);
    }

    @Override
    void all() {
        section("Terms");
        monthsAndPlaces();
        tableAndLimits();
        stream();
        licences();
        refusals();
    }

    private void monthsAndPlaces() {
        holds("Months are numbered from 0 to 35", this::months);
        holds("the year y, 0 to 2, has the months 12 * y to 12 * y + 11", this::years);
        holds("Wells, at most 8", this::eightWells);
        holds("and watches, at most 4", this::fourWatches);
        holds("are numbered from 0", this::numberedFromZero);
        holds("each at a place, 0 to 99", this::places);
        holds("on a line", this::line);
        holds("The reach of a well to a watch is the distance of their places, divided by 10, rounded down: 0 to 9.",
                this::reach);
    }

    private void tableAndLimits() {
        holds("The response table has a number, 0 to 1000", this::tableNumbers);
        holds("for each reach from 0 to 4 and each delay from 0 to 11", this::tableOfReachesAndDelays);
        holds("all 0 at first", this::tableAtFirst);
        holds("beyond the reach 4 all are 0", this::beyondTheReachFour);
        holds("A unit that is pumped by a well in a month lowers each watch in the month that is the delay later by "
                + "the number of the table for the reach and that delay, in thousandths.", this::oneUnit);
        holds("The drawdown of a watch in a month is all of that, added up over all wells and all months of pumping, "
                + "in thousandths.", this::addedUp);
        holds("A watch has a limit, in whole units: it is over it in a month if its drawdown, in thousandths, is "
                + "more than 1000 times the limit.", this::overTheLimit);
    }

    private void stream() {
        holds("The stream is at the place 0.", this::streamAtPlaceZero);
        holds("A unit that is pumped takes 1 of the stream in shares", this::unitTakesOne);
        holds("the delay is the place of the well, divided by 5, rounded down, in months", this::streamDelay);
        holds("half of the units of a month, rounded up, are taken in the month that is the delay later",
                this::firstHalf);
        holds("and the other ones in the month behind that", this::otherHalf);
        holds("What would be taken behind the month 35 is not counted.", this::behindTheLastMonth);
    }

    private void licences() {
        holds("Licences. A well has a zone, 0 to 2", this::zones);
        holds("and a licence, a number of units for each year", this::licenceOfEachYear);
        holds("The even burden of a watch, in thousandths, is the sum, over all wells, of the licence times all "
                + "twelve numbers of the table for the reach, together.", this::evenBurden);
        holds("Between zones there are ratios, in hundredths, 100 at first", this::ratiosAtFirst);
        holds("for each zone from which and each one to which is traded, also if both are the same",
                this::ratioOfEachTwoZones);
        holds("A trade takes units from the licence of one well, and adds to that of another one the units times the "
                + "ratio of their zones, divided by 100, rounded down.", this::tradeRoundsDown);
        holds("It can't be made if by it the even burden of some watch became greater.", this::greaterBurden);
    }

    private void refusals() {
        holds("A call that throws changes nothing.", this::nothingChanged);
        holds("Where two exceptions apply, the one that is listed first is thrown.", this::listedFirst);
        holds("The constants: `NONE = -1`: None.", () -> due("NONE", -1, WellField.NONE));
    }

    // ---- months, wells, watches, places

    private void months() {
        WellField f = Fields.wells(0);
        f.watch(0, 0);
        f.response(0, 0, 1);
        for (int month = 0; month <= 35; month++) {
            f.pump(0, month, month + 1);
        }
        for (int month = 0; month <= 35; month++) {
            due("drawdown of the month " + month, month + 1, f.drawdown(0, month));
            due("pump of the month " + month, month + 1, f.pump(0, month, 0));
        }
        noSuchMonth("pump", (g, month) -> g.pump(0, month, 0));
        noSuchMonth("drawdown", (g, month) -> g.drawdown(0, month));
    }

    private void years() {
        for (int month = 0; month <= 35; month++) {
            WellField f = new WellField();
            f.well(0, 0, 0);
            f.pump(0, month, 1);
            for (int year = 0; year <= 2; year++) {
                int due = month >= 12 * year && month <= 12 * year + 11 ? 1 : 0;
                String of = " of the year " + year + ", month " + month;
                due("pumped" + of, due, f.pumped(0, year));
                due("beyond" + of, due, f.beyond(year));
                due("taken" + of, due, f.taken(year));
            }
        }
        noSuchYear("pumped", (f, year) -> f.pumped(0, year));
        noSuchYear("beyond", (f, year) -> f.beyond(year));
        noSuchYear("taken", (f, year) -> f.taken(year));
    }

    private void eightWells() {
        WellField f = new WellField();
        for (int well = 0; well < 8; well++) {
            due("well", well, f.well(99, 2, 5000));
        }
        due("wells", 8, f.wells());
        noState("the ninth well", Fields::full, g -> g.well(0, 0, 0));
        due("pumped by the last well", 0, f.pumped(7, 2));
    }

    private void fourWatches() {
        WellField f = new WellField();
        for (int watch = 0; watch < 4; watch++) {
            due("watch", watch, f.watch(99, 10000));
        }
        due("watches", 4, f.watches());
        noState("the fifth watch", Fields::full, g -> g.watch(0, 0));
        due("drawdown of the last watch", 0, f.drawdown(3, 35));
    }

    private void numberedFromZero() {
        WellField f = new WellField();
        due("the first well", 0, f.well(50, 1, 1));
        due("the first watch, behind a well", 0, f.watch(50, 1));
        due("the second well, behind a watch", 1, f.well(50, 1, 2));
        due("the second watch", 1, f.watch(50, 2));
        due("licence(0)", 1, f.licence(0));
        due("licence(1)", 2, f.licence(1));
        noSuchWell("licence", (g, well) -> g.licence(well));
        noSuchWatch("burden", (g, watch) -> g.burden(watch));
    }

    private void places() {
        WellField f = new WellField();
        due("a well at 0", 0, f.well(0, 0, 0));
        due("a well at 99", 1, f.well(99, 0, 0));
        due("a watch at 0", 0, f.watch(0, 0));
        due("a watch at 99", 1, f.watch(99, 0));
        f.response(0, 0, 1);
        f.pump(0, 0, 3);
        f.pump(1, 0, 5);
        due("the place 0", 3, f.drawdown(0, 0));
        due("the place 99", 5, f.drawdown(1, 0));
        outOfRange("well at a place", 0, 99, (g, place) -> g.well(place, 0, 0));
        outOfRange("watch at a place", 0, 99, (g, place) -> g.watch(place, 0));
    }

    private void line() {
        WellField f = Fields.wells(30, 50, 0);
        f.watch(40, 0);
        f.watch(99, 0);
        f.response(0, 0, 100);
        f.response(1, 0, 7);
        f.pump(0, 0, 1);
        due("a well ahead of the watch", 7, f.drawdown(0, 0));
        f.pump(1, 1, 1);
        due("a well as far behind it", 7, f.drawdown(0, 1));
        f.pump(2, 2, 1);
        due("one end is not near the other", 0, f.drawdown(1, 2));
    }

    private void reach() {
        for (int distance = 0; distance <= 99; distance++) {
            WellField f = Fields.wells(0, distance);
            f.watch(distance, 0);
            f.watch(0, 0);
            for (int reach = 0; reach <= 4; reach++) {
                f.response(reach, 0, reach + 1);
            }
            f.pump(0, 0, 1);
            f.pump(1, 1, 1);
            int due = distance < 50 ? distance / 10 + 1 : 0;
            due("a watch behind the well by " + distance, due, f.drawdown(0, 0));
            due("a watch ahead of the well by " + distance, due, f.drawdown(1, 1));
        }
    }

    // ---- the table, drawdown, limits

    private void tableNumbers() {
        WellField f = new WellField();
        for (int number : new int[] {1000, 999, 1, 0}) {
            f.response(2, 5, number);
            due("the number " + number, number, f.response(2, 5, number));
        }
        outOfRange("response of a number", 0, 1000, (g, number) -> g.response(2, 5, number));
    }

    private void tableOfReachesAndDelays() {
        WellField f = new WellField();
        for (int reach = 0; reach <= 4; reach++) {
            for (int delay = 0; delay <= 11; delay++) {
                f.response(reach, delay, 1 + 100 * reach + delay);
            }
        }
        for (int reach = 0; reach <= 4; reach++) {
            for (int delay = 0; delay <= 11; delay++) {
                due("the number of the reach " + reach + " and the delay " + delay, 1 + 100 * reach + delay,
                        f.response(reach, delay, 0));
            }
        }
        noSuchReach("response of a reach", (g, reach) -> g.response(reach, 0, 0));
        noSuchDelay("response of a delay", (g, delay) -> g.response(0, delay, 0));
    }

    private void tableAtFirst() {
        fillTable(new WellField(), 1000);
        WellField f = Fields.wells(0);
        f.watch(0, 0);
        f.pump(0, 0, 1000);
        due("drawdown", 0, f.drawdown(0, 0));
        due("burden", 0, f.burden(0));
        for (int reach = 0; reach <= 4; reach++) {
            for (int delay = 0; delay <= 11; delay++) {
                due("the number of the reach " + reach + " and the delay " + delay, 0, f.response(reach, delay, 1));
            }
        }
    }

    private void beyondTheReachFour() {
        for (int place = 40; place <= 99; place++) {
            WellField f = Fields.wells(0);
            f.watch(place, 0);
            fillTable(f, 1000);
            f.pump(0, 3, 1);
            boolean near = place <= 49;
            due("drawdown at " + place, near ? 1000 : 0, f.drawdown(0, 3));
            due("drawdownByPulses at " + place, near ? 1000 : 0, f.drawdownByPulses(0, 14));
            due("heaviest at " + place, near ? 0 : -1, f.heaviest(0, 3));
            due("headroom at " + place, near ? 0 : 999, f.headroom(0, 3));
            due("burden at " + place, near ? 12000000 : 0, f.burden(0));
        }
    }

    private void oneUnit() {
        for (int month : new int[] {0, 7, 24, 25, 35}) {
            WellField f = Fields.wells(45);
            f.watch(20, 0);
            f.watch(70, 0);
            f.watch(45, 0);
            for (int delay = 0; delay <= 11; delay++) {
                f.response(2, delay, 3 * delay + 1);
                f.response(0, delay, 1000 - delay);
            }
            f.pump(0, month, 1);
            for (int when = 0; when <= 35; when++) {
                int delay = when - month;
                boolean lowers = delay >= 0 && delay <= 11;
                String of = "a unit of the month " + month + " in the month " + when;
                due(of, lowers ? 3 * delay + 1 : 0, f.drawdown(0, when));
                due(of + ", another watch", lowers ? 3 * delay + 1 : 0, f.drawdown(1, when));
                due(of + ", another reach", lowers ? 1000 - delay : 0, f.drawdown(2, when));
            }
        }
    }

    private void addedUp() {
        WellField f = Fields.wells(0, 10, 20, 30, 40, 49, 50, 99);
        f.watch(0, 0);
        for (int reach = 0; reach <= 4; reach++) {
            f.response(reach, 0, 1);
            f.response(reach, 1, 10);
            f.response(reach, 11, 100);
        }
        for (int well = 0; well < 8; well++) {
            f.pump(well, 0, 1);
            f.pump(well, 10, 2);
            f.pump(well, 11, 3);
        }
        due("six wells within the reach 4, three months of pumping", 6 * (100 + 20 + 3), f.drawdown(0, 11));
        due("the last of the months behind", 6 * 300, f.drawdown(0, 22));
    }

    private void overTheLimit() {
        for (int limit : new int[] {0, 1, 2, 999, 9999, 10000}) {
            WellField f = drawnToLimit(limit);
            due("drawdown at the limit " + limit, 1000L * limit, f.drawdown(0, 9));
            due("over at the limit " + limit, 0, f.over(0));
            drawByOneMore(f);
            due("drawdown beyond the limit " + limit, 1000L * limit + 1, f.drawdown(0, 9));
            due("over beyond the limit " + limit, 1, f.over(0));
        }
    }

    // ---- the stream

    private void streamAtPlaceZero() {
        WellField f = Fields.wells(0, 99);
        f.pump(0, 35, 1);
        due("a well at the stream takes at once", 1, f.taken(2));
        f.pump(1, 35, 1);
        due("a well at the other end does not", 1, f.taken(2));
    }

    private void unitTakesOne() {
        for (int units : new int[] {0, 1, 2, 3, 999, 1000}) {
            WellField f = Fields.wells(0, 44, 99);
            for (int well = 0; well < 3; well++) {
                f.pump(well, 4, units);
            }
            due(units + " units of three wells in all", 3 * units, f.taken(0) + f.taken(1) + f.taken(2));
        }
    }

    private void streamDelay() {
        for (int place = 0; place <= 99; place++) {
            WellField f = Fields.wells(place);
            int month = 23 - place / 5;
            f.pump(0, month, 1);
            due("from " + place + " in the month 23", 1, f.taken(1));
            f.pump(0, month, 0);
            f.pump(0, month + 1, 1);
            due("from " + place + " in the month 24", 1, f.taken(2));
            due("from " + place + " not in the month 23", 0, f.taken(1));
        }
    }

    private void firstHalf() {
        WellField f = Fields.wells(0, 0);
        for (int units : new int[] {0, 1, 2, 3, 4, 5, 998, 999, 1000}) {
            f.pump(0, 11, units);
            due("at once of " + units, units / 2 + units % 2, f.taken(0));
        }
        f.pump(0, 11, 1);
        f.pump(1, 11, 1);
        due("each well's half is rounded by itself", 2, f.taken(0));
        f.pump(1, 11, 0);
        f.pump(0, 10, 1);
        due("each month's half is rounded by itself", 2, f.taken(0));
    }

    private void otherHalf() {
        WellField f = Fields.wells(0);
        for (int units : new int[] {0, 1, 2, 3, 4, 5, 998, 999, 1000}) {
            f.pump(0, 11, units);
            due("a month behind of " + units, units / 2, f.taken(1));
            due("no more behind that of " + units, 0, f.taken(2));
        }
    }

    private void behindTheLastMonth() {
        WellField f = Fields.wells(0, 9, 99);
        f.pump(0, 35, 5);
        due("half of the month 35", 3, f.taken(2));
        f.pump(0, 35, 0);
        f.pump(1, 34, 5);
        due("half of the month 34, one month on", 3, f.taken(2));
        f.pump(1, 34, 0);
        f.pump(1, 35, 1000);
        due("nothing of the month 35, one month on", 0, f.taken(2));
        f.pump(2, 15, 5);
        due("all of the month 15, nineteen months on", 5, f.taken(2));
        due("late, all of it", 5, f.takenLate(2, 2));
        f.pump(2, 15, 0);
        f.pump(2, 16, 5);
        due("half of the month 16", 3, f.taken(2));
        due("late, half of it", 3, f.takenLate(2, 2));
        f.pump(2, 16, 0);
        f.pump(2, 17, 1000);
        due("nothing of the month 17", 0, f.taken(2));
        due("not in an earlier year either", 0, f.taken(0) + f.taken(1));
    }

    // ---- licences

    private void zones() {
        for (int zone = 0; zone <= 2; zone++) {
            WellField f = new WellField();
            f.well(0, zone, 100);
            f.well(0, 1, 0);
            f.ratio(zone, 1, 60 + zone);
            due("traded from the zone " + zone, 60 + zone, f.trade(0, 1, 100));
        }
        outOfRange("well of a zone", 0, 2, (f, zone) -> f.well(0, zone, 0));
        noSuchZone("ratio from a zone", (f, zone) -> f.ratio(zone, 0, 0));
    }

    private void licenceOfEachYear() {
        WellField f = new WellField();
        f.well(0, 0, 10);
        for (int year = 0; year <= 2; year++) {
            f.pump(0, 12 * year, 6);
            f.pump(0, 12 * year + 11, 4);
            due("the whole licence in the year " + year, 0, f.beyond(year));
            f.pump(0, 12 * year + 11, 5);
            due("one more in the year " + year, 1, f.beyond(year));
        }
        due("licence", 10, f.licence(0));
    }

    private void evenBurden() {
        int[] licences = {5000, 5000, 5000, 5000, 1000, 100, 10, 1};
        WellField f = new WellField();
        for (int well = 0; well < 8; well++) {
            f.well(70 - 10 * well, 0, licences[well]);
        }
        f.watch(0, 0);
        for (int reach = 0; reach <= 4; reach++) {
            for (int delay = 0; delay <= 11; delay++) {
                f.response(reach, delay, 1 + 12 * reach + delay);
            }
        }
        due("burden", 78 + 222 * 10 + 366 * 100 + 510 * 1000 + 654 * 5000, f.burden(0));
    }

    private void ratiosAtFirst() {
        new WellField().ratio(0, 0, 200);
        for (int from = 0; from <= 2; from++) {
            for (int to = 0; to <= 2; to++) {
                WellField f = new WellField();
                f.well(0, from, 77);
                f.well(0, to, 0);
                due("traded from " + from + " to " + to, 77, f.trade(0, 1, 77));
                due("ratio from " + from + " to " + to, 100, f.ratio(from, to, 0));
            }
        }
    }

    private void ratioOfEachTwoZones() {
        WellField f = new WellField();
        for (int well = 0; well < 6; well++) {
            f.well(0, well / 2, 1000);
        }
        for (int from = 0; from <= 2; from++) {
            for (int to = 0; to <= 2; to++) {
                f.ratio(from, to, 1 + 10 * from + to);
            }
        }
        for (int from = 0; from <= 2; from++) {
            for (int to = 0; to <= 2; to++) {
                String zones = " from " + from + " to " + to;
                due("traded" + zones, 1 + 10 * from + to, f.trade(2 * from, 2 * to + 1, 100));
                due("ratio" + zones, 1 + 10 * from + to, f.ratio(from, to, 0));
            }
        }
    }

    private void tradeRoundsDown() {
        int[][] trades = {
            {1, 99, 0}, {1, 100, 1}, {1, 101, 1}, {1, 199, 1}, {1, 200, 2}, {99, 1, 0}, {100, 1, 1}, {101, 1, 1},
            {199, 1, 1}, {3, 33, 0}, {3, 34, 1}, {101, 99, 99}, {5000, 0, 0}, {5000, 200, 10000}, {4999, 199, 9948}};
        for (int[] trade : trades) {
            WellField f = new WellField();
            f.well(0, 0, 5000);
            f.well(0, 1, 7);
            f.ratio(0, 1, trade[1]);
            String of = trade[0] + " units by the ratio " + trade[1];
            due(of, trade[2], f.trade(0, 1, trade[0]));
            due(of + ", taken", 5000 - trade[0], f.licence(0));
            due(of + ", added", 7 + trade[2], f.licence(1));
        }
    }

    private void greaterBurden() {
        for (int worse = 0; worse < 4; worse++) {
            for (int ratio : new int[] {0, 100}) {
                WellField f = betterButForOne(worse, ratio);
                due("the burden of the watch " + worse, 500, f.burden(worse));
                if (ratio == 0) {
                    due("no watch is worse off", 0, f.trade(0, 1, 1));
                    due("the burden stays", 500, f.burden(worse));
                }
            }
            int only = worse;
            noState("by 1 thousandth for the watch " + worse + " alone", () -> betterButForOne(only, 100),
                    f -> f.trade(0, 1, 1));
        }
        WellField f = Fields.wells(20, 40);
        f.watch(30, 0);
        f.response(1, 4, 1000);
        due("just the same burden", 1000, f.trade(0, 1, 1000));
        due("the burden is the same", 2000000, f.burden(0));
    }

    /** Each watch but one is near the well that gives, that one near the well that gets. */
    private static WellField betterButForOne(int worse, int ratio) {
        WellField f = new WellField();
        f.well(10, 0, 500);
        f.well(80, 1, 500);
        for (int watch = 0; watch < 4; watch++) {
            f.watch(watch == worse ? 80 : 10, 10000);
        }
        f.response(0, 11, 1);
        f.ratio(0, 1, ratio);
        return f;
    }

    // ---- exceptions

    private void nothingChanged() {
        noArgument("well", Fields::part, f -> f.well(99, 2, 5001));
        noState("well", Fields::full, f -> f.well(50, 2, 5000));
        noArgument("watch", Fields::part, f -> f.watch(99, 10001));
        noState("watch", Fields::full, f -> f.watch(50, 10000));
        noIndex("response", Fields::full, f -> f.response(4, 12, 1000));
        noArgument("response", Fields::full, f -> f.response(4, 11, 1001));
        noIndex("pump", Fields::full, f -> f.pump(7, 36, 1000));
        noArgument("pump", Fields::full, f -> f.pump(7, 35, 1001));
        noIndex("rest", Fields::full, f -> f.rest(7, 36, 36));
        noArgument("rest", Fields::full, f -> f.rest(7, 0, 37));
        noIndex("drawdownByPulses", Fields::full, f -> f.drawdownByPulses(3, 36));
        noIndex("headroom", Fields::full, f -> f.headroom(7, 36));
        noIndex("ratio", Fields::full, f -> f.ratio(2, 3, 200));
        noArgument("ratio", Fields::full, f -> f.ratio(2, 2, 201));
        noIndex("trade", Fields::full, f -> f.trade(7, 8, 1));
        noArgument("trade", Fields::full, f -> f.trade(7, 6, 5001));
        noState("trade", Fields::full, f -> f.trade(7, 6, 4201));
        noIndex("mostTraded", Fields::full, f -> f.mostTraded(8, 7));
        noArgument("mostTraded", Fields::full, f -> f.mostTraded(7, 7));
    }

    private void listedFirst() {
        noArgument("well, of eight", Fields::full, f -> f.well(100, 0, 0));
        noArgument("watch, of four", Fields::full, f -> f.watch(0, 10001));
        noIndex("response, no reach", Fields::full, f -> f.response(5, 0, 1001));
        noIndex("response, no delay", Fields::full, f -> f.response(0, 12, -1));
        noIndex("pump, no well", Fields::full, f -> f.pump(8, 0, 1001));
        noIndex("pump, no month", Fields::full, f -> f.pump(0, 36, -1));
        noIndex("rest, no well", Fields::full, f -> f.rest(8, 0, 0));
        noIndex("rest, no month", Fields::full, f -> f.rest(0, 36, 37));
        noIndex("ratio, no zone from", Fields::full, f -> f.ratio(3, 0, 201));
        noIndex("ratio, no zone to", Fields::full, f -> f.ratio(0, 3, -1));
        noIndex("trade, no well, and the same", Fields::full, f -> f.trade(8, 8, 1));
        noIndex("trade, no well, and no units", Fields::full, f -> f.trade(0, 8, 0));
        noArgument("trade, the same, and too little licence", Fields::full, f -> f.trade(0, 0, 1));
        noArgument("trade, too many units, and too little licence", Fields::full, f -> f.trade(0, 1, 5001));
        noIndex("mostTraded, no well, and the same", Fields::full, f -> f.mostTraded(8, 8));
    }
}
