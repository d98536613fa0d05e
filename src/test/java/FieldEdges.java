/** The promises 1 to 6: the field. */
final class FieldEdges extends Edges {
    FieldEdges(Sentences sentences) {
        super(sentences);
    }

    @Override
    void all() {
        section("Promise 1: A new object");
        holds("A field without wells and watches.", this::newField);
        wells();
        watches();
        responses();
        section("Promise 5: wells");
        holds("Returns the number of wells.", this::numberOfWells);
        section("Promise 6: watches");
        holds("Returns the number of watches.", this::numberOfWatches);
    }

    private void wells() {
        section("Promise 2: well");
        holds("Adds a well, which has not pumped.", this::wellThatHasNotPumped);
        holds("`place`: 0 to 99", this::wellPlace);
        holds("`zone`: 0 to 2", this::wellZone);
        holds("`licence`: 0 to 5000", this::wellLicence);
        holds("Returns its number.", this::wellNumber);
        holds("Throws `IllegalArgumentException` if place, zone or licence is out of its range", this::wellOutOfRange);
        holds("Throws `IllegalStateException` if there are 8 wells", this::ninthWell);
    }

    private void watches() {
        section("Promise 3: watch");
        holds("Adds a watch.", this::oneMoreWatch);
        holds("`place`: 0 to 99", this::watchPlace);
        holds("`limit`: 0 to 10000", this::watchLimit);
        holds("Returns its number.", this::watchNumber);
        holds("Throws `IllegalArgumentException` if place or limit is out of its range", this::watchOutOfRange);
        holds("Throws `IllegalStateException` if there are 4 watches", this::fifthWatch);
    }

    private void responses() {
        section("Promise 4: response");
        holds("Sets a number of the response table.", this::setsOneNumber);
        holds("`reach`: 0 to 4", this::reaches);
        holds("`delay`: 0 to 11", this::delays);
        holds("`response`: 0 to 1000", this::responseNumbers);
        holds("Returns the number before.", this::numberBefore);
        holds("Throws `IndexOutOfBoundsException` if there is no such reach or delay", this::noReachOrDelay);
        holds("Throws `IllegalArgumentException` if response is out of its range", this::responseOutOfRange);
    }

    // ---- Promise 1

    private void newField() {
        WellField f = new WellField();
        due("wells", 0, f.wells());
        due("watches", 0, f.watches());
        for (int year = 0; year <= 2; year++) {
            due("beyond of the year " + year, 0, f.beyond(year));
            due("taken of the year " + year, 0, f.taken(year));
        }
        noIndex("licence(0)", Fields::empty, g -> g.licence(0));
        noIndex("pump(0, 0, 0)", Fields::empty, g -> g.pump(0, 0, 0));
        noIndex("trade(0, 1, 1)", Fields::empty, g -> g.trade(0, 1, 1));
        noIndex("burden(0)", Fields::empty, g -> g.burden(0));
        noIndex("drawdown(0, 0)", Fields::empty, g -> g.drawdown(0, 0));
        due("the first well", 0, f.well(0, 0, 0));
        due("the first watch", 0, f.watch(0, 0));
        WellField another = new WellField();
        due("wells of another object", 0, another.wells());
        due("watches of another object", 0, another.watches());
    }

    // ---- Promise 2

    private void wellThatHasNotPumped() {
        WellField f = Fields.wells(20);
        pumpAllMonths(f, 0, 1000);
        f.well(20, 0, 0);
        due("wells", 2, f.wells());
        for (int year = 0; year <= 2; year++) {
            due("pumped in the year " + year, 0, f.pumped(1, year));
            due("taken late in the year " + year, 0, f.takenLate(1, year));
        }
        for (int month = 0; month <= 35; month++) {
            due("told of the month " + month, 0, f.pump(1, month, 1));
        }
    }

    /** Seen by watches at the last place of the reach 0 and the first one of the reach 1. */
    private void wellPlace() {
        for (int place : new int[] {0, 1, 50, 98, 99}) {
            WellField f = Fields.wells(place);
            int side = place < 50 ? 1 : -1;
            f.watch(place + 9 * side, 0);
            f.watch(place + 10 * side, 0);
            f.response(0, 0, 3);
            f.response(1, 0, 5);
            f.pump(0, 0, 1);
            due("lowered within the reach 0 of " + place, 3, f.drawdown(0, 0));
            due("lowered within the reach 1 of " + place, 5, f.drawdown(1, 0));
        }
        outOfRange("well at a place", 0, 99, (f, place) -> f.well(place, 0, 0));
    }

    private void wellZone() {
        for (int zone = 0; zone <= 2; zone++) {
            WellField f = new WellField();
            f.well(0, 0, 100);
            f.well(0, zone, 0);
            f.ratio(0, zone, 70 + zone);
            due("traded to the zone " + zone, 70 + zone, f.trade(0, 1, 100));
        }
        outOfRange("well of a zone", 0, 2, (f, zone) -> f.well(0, zone, 0));
    }

    private void wellLicence() {
        WellField f = new WellField();
        int[] licences = {0, 1, 4999, 5000};
        for (int well = 0; well < 4; well++) {
            f.well(0, 0, licences[well]);
            due("licence", licences[well], f.licence(well));
        }
        outOfRange("well with a licence", 0, 5000, (g, licence) -> g.well(0, 0, licence));
    }

    private void wellNumber() {
        WellField f = new WellField();
        f.watch(0, 0);
        for (int well = 0; well <= 7; well++) {
            due("well", well, f.well(10 * well, well % 3, 100 * well));
        }
        for (int well = 0; well <= 7; well++) {
            due("the licence by that number", 100 * well, f.licence(well));
        }
    }

    private void wellOutOfRange() {
        noArgument("place too small", Fields::part, f -> f.well(-1, 0, 0));
        noArgument("place too large", Fields::part, f -> f.well(100, 2, 5000));
        noArgument("zone too small", Fields::part, f -> f.well(0, -1, 0));
        noArgument("zone too large", Fields::part, f -> f.well(99, 3, 5000));
        noArgument("licence too small", Fields::part, f -> f.well(0, 0, -1));
        noArgument("licence too large", Fields::part, f -> f.well(99, 2, 5001));
        noArgument("all of them", Fields::empty, f -> f.well(-1, 3, 5001));
        noArgument("place too small, of eight wells", Fields::full, f -> f.well(-1, 0, 0));
        noArgument("zone too large, of eight wells", Fields::full, f -> f.well(0, 3, 0));
        noArgument("licence too large, of eight wells", Fields::full, f -> f.well(0, 0, 5001));
    }

    private void ninthWell() {
        WellField f = Fields.wells(0, 0, 0, 0, 0, 0, 0);
        due("the eighth well", 7, f.well(0, 0, 0));
        noState("the ninth well", Fields::full, g -> g.well(0, 0, 0));
        noState("the ninth well, as great as can be", Fields::full, g -> g.well(99, 2, 5000));
    }

    // ---- Promise 3

    private void oneMoreWatch() {
        WellField f = Fields.wells(0);
        f.response(0, 0, 4);
        f.pump(0, 0, 10);
        f.watch(0, 0);
        due("watches", 1, f.watches());
        due("lowered by what was pumped before it was added", 40, f.drawdown(0, 0));
        f.watch(0, 0);
        due("watches", 2, f.watches());
        due("one more at the same place", 40, f.drawdown(1, 0));
        due("wells", 1, f.wells());
    }

    /** Seen by wells at the last place of the reach 0 and the first one of the reach 1. */
    private void watchPlace() {
        for (int place : new int[] {0, 1, 50, 98, 99}) {
            int side = place < 50 ? 1 : -1;
            WellField f = Fields.wells(place + 9 * side, place + 10 * side);
            f.watch(place, 0);
            f.response(0, 0, 3);
            f.response(1, 0, 5);
            f.pump(0, 0, 1);
            f.pump(1, 1, 1);
            due("lowered within the reach 0 of " + place, 3, f.drawdown(0, 0));
            due("lowered within the reach 1 of " + place, 5, f.drawdown(0, 1));
        }
        outOfRange("watch at a place", 0, 99, (f, place) -> f.watch(place, 0));
    }

    private void watchLimit() {
        for (int limit : new int[] {0, 1, 9999, 10000}) {
            WellField f = drawnToLimit(limit);
            due("over at the limit " + limit, 0, f.over(0));
            drawByOneMore(f);
            due("over beyond the limit " + limit, 1, f.over(0));
        }
        outOfRange("watch with a limit", 0, 10000, (f, limit) -> f.watch(0, limit));
    }

    private void watchNumber() {
        WellField f = Fields.wells(0, 0);
        f.response(0, 0, 1000);
        f.pump(0, 0, 25);
        for (int watch = 0; watch <= 3; watch++) {
            due("watch", watch, f.watch(0, 100 - 10 * watch));
            due("the room by the limit of that number", 75 - 10 * watch, f.headroom(1, 0));
        }
    }

    private void watchOutOfRange() {
        noArgument("place too small", Fields::part, f -> f.watch(-1, 0));
        noArgument("place too large", Fields::part, f -> f.watch(100, 10000));
        noArgument("limit too small", Fields::part, f -> f.watch(0, -1));
        noArgument("limit too large", Fields::part, f -> f.watch(99, 10001));
        noArgument("both", Fields::empty, f -> f.watch(100, -1));
        noArgument("place too small, of four watches", Fields::full, f -> f.watch(-1, 0));
        noArgument("limit too large, of four watches", Fields::full, f -> f.watch(0, 10001));
    }

    private void fifthWatch() {
        WellField f = new WellField();
        for (int watch = 0; watch <= 2; watch++) {
            f.watch(0, 0);
        }
        due("the fourth watch", 3, f.watch(0, 0));
        noState("the fifth watch", Fields::full, g -> g.watch(0, 0));
        noState("the fifth watch, as great as can be", Fields::full, g -> g.watch(99, 10000));
    }

    // ---- Promise 4

    private void setsOneNumber() {
        WellField f = Fields.wells(25);
        f.watch(0, 0);
        f.pump(0, 0, 2);
        due("before", 0, f.drawdown(0, 3));
        f.response(2, 3, 9);
        due("pumped before the number was set", 18, f.drawdown(0, 3));
        f.response(2, 3, 8);
        due("by the number of now", 16, f.drawdown(0, 3));
        due("the burden by the number of now", 8000, f.burden(0));
        for (int reach = 0; reach <= 4; reach++) {
            for (int delay = 0; delay <= 11; delay++) {
                int due = reach == 2 && delay == 3 ? 8 : 0;
                due("the number of " + reach + " and " + delay, due, f.response(reach, delay, due));
            }
        }
    }

    private void reaches() {
        for (int reach = 0; reach <= 4; reach++) {
            WellField f = Fields.wells(0);
            f.watch(10 * reach + 9, 0);
            f.response(reach, 0, 6);
            f.pump(0, 0, 1);
            due("lowered by the number of the reach " + reach, 6, f.drawdown(0, 0));
        }
        noSuchReach("response of a reach", (f, reach) -> f.response(reach, 0, 0));
    }

    private void delays() {
        WellField f = Fields.wells(0);
        f.watch(0, 0);
        f.pump(0, 0, 1);
        for (int delay = 0; delay <= 11; delay++) {
            f.response(0, delay, 6);
            due("lowered by the number of the delay " + delay, 6, f.drawdown(0, delay));
            due("not yet by that of the one behind", 0, f.drawdown(0, delay + 1));
        }
        noSuchDelay("response of a delay", (g, delay) -> g.response(0, delay, 0));
    }

    private void responseNumbers() {
        WellField f = Fields.wells(0);
        f.watch(0, 0);
        f.pump(0, 0, 1);
        for (int number : new int[] {0, 1, 999, 1000}) {
            f.response(0, 0, number);
            due("lowered by the number " + number, number, f.drawdown(0, 0));
        }
        outOfRange("response of a number", 0, 1000, (g, number) -> g.response(0, 0, number));
    }

    private void numberBefore() {
        WellField f = new WellField();
        for (int reach : new int[] {0, 4}) {
            for (int delay : new int[] {0, 11}) {
                due("at first", 0, f.response(reach, delay, 1000));
                due("set", 1000, f.response(reach, delay, 1000));
                due("set to the same", 1000, f.response(reach, delay, 1));
                due("set to less", 1, f.response(reach, delay, 0));
                due("set to 0", 0, f.response(reach, delay, 0));
            }
        }
    }

    private void noReachOrDelay() {
        noIndex("reach -1", Fields::full, f -> f.response(-1, 0, 0));
        noIndex("reach 5", Fields::full, f -> f.response(5, 11, 1000));
        noIndex("delay -1", Fields::full, f -> f.response(0, -1, 0));
        noIndex("delay 12", Fields::full, f -> f.response(4, 12, 1000));
        noIndex("neither", Fields::empty, f -> f.response(5, 12, 0));
        noIndex("reach -1, response out of its range", Fields::full, f -> f.response(-1, 0, -1));
        noIndex("reach 5, response out of its range", Fields::full, f -> f.response(5, 0, 1001));
        noIndex("delay -1, response out of its range", Fields::full, f -> f.response(0, -1, -1));
        noIndex("delay 12, response out of its range", Fields::full, f -> f.response(0, 12, 1001));
    }

    private void responseOutOfRange() {
        noArgument("response -1", Fields::full, f -> f.response(0, 0, -1));
        noArgument("response 1001", Fields::full, f -> f.response(4, 11, 1001));
    }

    // ---- Promises 5 and 6

    private void numberOfWells() {
        WellField f = new WellField();
        due("no wells", 0, f.wells());
        for (int well = 0; well <= 7; well++) {
            f.well(0, 0, 0);
            due("wells", well + 1, f.wells());
        }
        f.watch(0, 0);
        due("wells beside a watch", 8, f.wells());
    }

    private void numberOfWatches() {
        WellField f = new WellField();
        due("no watches", 0, f.watches());
        for (int watch = 0; watch <= 3; watch++) {
            f.watch(0, 0);
            due("watches", watch + 1, f.watches());
        }
        f.well(0, 0, 0);
        due("watches beside a well", 4, f.watches());
    }
}
