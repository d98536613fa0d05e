/** The promises 7 to 10: pumping. */
final class PumpingEdges extends Edges {
    PumpingEdges(Sentences sentences) {
        super(sentences);
    }

    @Override
    void all() {
        pump();
        rest();
        pumped();
        beyond();
    }

    private void pump() {
        section("Promise 7: pump");
        holds("Tells, or corrects, what a well pumps in a month.", this::tellsOrCorrects);
        holds("`well`: the well", this::pumpOfEachWell);
        holds("`month`: 0 to 35", this::pumpOfEachMonth);
        holds("`units`: 0 to 1000", this::pumpOfUnits);
        holds("Returns what was told before, 0 at first.", this::toldBefore);
        holds("Throws `IndexOutOfBoundsException` if there is no such well or month", this::pumpOfNoWellOrMonth);
        holds("Throws `IllegalArgumentException` if units is out of its range", this::pumpOutOfRange);
    }

    private void rest() {
        section("Promise 8: rest");
        holds("Rests a well: what it pumps in a month and the months behind it becomes 0.", this::becomesZero);
        holds("`well`: the well", this::restOfEachWell);
        holds("`month`: 0 to 35", this::restOfEachMonth);
        holds("`months`: how many months in all, 1 to 36", this::restOfMonths);
        holds("those behind the month 35 do not matter", this::restBehindTheLastMonth);
        holds("Returns how many units are not pumped by that.", this::unitsNotPumped);
        holds("Throws `IndexOutOfBoundsException` if there is no such well or month", this::restOfNoWellOrMonth);
        holds("Throws `IllegalArgumentException` if months is out of its range", this::restOutOfRange);
    }

    private void pumped() {
        section("Promise 9: pumped");
        holds("Returns what a well pumps in a year.", this::pumpedInAYear);
        holds("`well`: the well", this::pumpedOfEachWell);
        holds("`year`: 0 to 2", this::pumpedOfEachYear);
        holds("Returns the units.", this::pumpedUnits);
        holds("Throws `IndexOutOfBoundsException` if there is no such well or year", this::pumpedOfNoWellOrYear);
    }

    private void beyond() {
        section("Promise 10: beyond");
        holds("Returns how many units of a year are pumped beyond licences: of each well those beyond its licence "
                + "of now, together.", this::beyondLicences);
        holds("`year`: 0 to 2", this::beyondOfEachYear);
        holds("Returns the units.", this::beyondUnits);
        holds("Throws `IndexOutOfBoundsException` if there is no such year", this::beyondOfNoYear);
    }

    // ---- Promise 7

    private void tellsOrCorrects() {
        WellField f = Fields.wells(0);
        f.pump(0, 5, 40);
        due("told", 40, f.pumped(0, 0));
        f.pump(0, 5, 30);
        due("corrected to less", 30, f.pumped(0, 0));
        f.pump(0, 5, 50);
        due("corrected to more", 50, f.pumped(0, 0));
        f.pump(0, 6, 1);
        due("told of another month", 51, f.pumped(0, 0));
        f.pump(0, 5, 0);
        due("corrected to 0", 1, f.pumped(0, 0));
    }

    private void pumpOfEachWell() {
        WellField f = Fields.wells(0, 0, 0, 0, 0, 0, 0, 0);
        for (int well = 0; well <= 7; well++) {
            due("at first by " + well, 0, f.pump(well, 7, well + 1));
        }
        for (int well = 0; well <= 7; well++) {
            due("told by " + well, well + 1, f.pump(well, 7, 0));
        }
        noSuchWell("pump", (g, well) -> g.pump(well, 0, 0));
    }

    private void pumpOfEachMonth() {
        WellField f = Fields.wells(0);
        for (int month = 0; month <= 35; month++) {
            due("at first of " + month, 0, f.pump(0, month, month + 1));
        }
        for (int month = 0; month <= 35; month++) {
            due("told of " + month, month + 1, f.pump(0, month, 0));
        }
        noSuchMonth("pump", (g, month) -> g.pump(0, month, 0));
    }

    private void pumpOfUnits() {
        WellField f = Fields.wells(0);
        for (int units : new int[] {1000, 999, 1, 0}) {
            f.pump(0, 0, units);
            due("pumped of " + units, units, f.pumped(0, 0));
        }
        outOfRange("pump of units", 0, 1000, (g, units) -> g.pump(0, 0, units));
    }

    private void toldBefore() {
        WellField f = Fields.wells(0);
        for (int month : new int[] {0, 35}) {
            due("at first", 0, f.pump(0, month, 1000));
            due("told", 1000, f.pump(0, month, 1000));
            due("told the same", 1000, f.pump(0, month, 1));
            due("told less", 1, f.pump(0, month, 0));
            due("told 0", 0, f.pump(0, month, 0));
        }
    }

    private void pumpOfNoWellOrMonth() {
        noIndex("well -1", Fields::full, f -> f.pump(-1, 0, 0));
        noIndex("well 8", Fields::full, f -> f.pump(8, 35, 1000));
        noIndex("well 0 of none", Fields::empty, f -> f.pump(0, 0, 0));
        noIndex("month -1", Fields::full, f -> f.pump(0, -1, 0));
        noIndex("month 36", Fields::full, f -> f.pump(7, 36, 1000));
        noIndex("well -1, units out of their range", Fields::full, f -> f.pump(-1, 0, -1));
        noIndex("well 3 of three, units out of their range", Fields::part, f -> f.pump(3, 0, 1001));
        noIndex("month -1, units out of their range", Fields::full, f -> f.pump(0, -1, 1001));
        noIndex("month 36, units out of their range", Fields::full, f -> f.pump(0, 36, -1));
    }

    private void pumpOutOfRange() {
        noArgument("units -1", Fields::full, f -> f.pump(0, 0, -1));
        noArgument("units 1001", Fields::full, f -> f.pump(7, 35, 1001));
    }

    // ---- Promise 8

    /** A well that pumps 1 more than the month's number in each month, beside another one. */
    private static WellField pumping() {
        WellField f = Fields.wells(0, 0);
        for (int month = 0; month <= 35; month++) {
            f.pump(0, month, month + 1);
            f.pump(1, month, 500);
        }
        return f;
    }

    private void dueRested(String rest, WellField f, int first, int last) {
        for (int month = 0; month <= 35; month++) {
            boolean rested = first <= month && month <= last;
            due(rest + ", the month " + month, rested ? 0 : month + 1, f.pump(0, month, 0));
        }
    }

    private void becomesZero() {
        WellField f = pumping();
        f.rest(0, 5, 3);
        dueRested("rest(0, 5, 3)", f, 5, 7);
        f.pump(0, 6, 9);
        due("it can be told anew", 9, f.pumped(0, 0));
        f.watch(0, 0);
        f.response(0, 0, 10);
        due("drawdown by both", 90 + 5000, f.drawdown(0, 6));
        f.rest(0, 6, 1);
        due("no drawdown by what is rested", 5000, f.drawdown(0, 6));
    }

    private void restOfEachWell() {
        for (int rested = 0; rested <= 7; rested++) {
            WellField f = Fields.wells(0, 0, 0, 0, 0, 0, 0, 0);
            for (int well = 0; well <= 7; well++) {
                f.pump(well, 3, well + 1);
            }
            due("rest of " + rested, rested + 1, f.rest(rested, 0, 36));
            for (int well = 0; well <= 7; well++) {
                due("pumped by " + well, well == rested ? 0 : well + 1, f.pumped(well, 0));
            }
        }
        noSuchWell("rest", (f, well) -> f.rest(well, 0, 1));
    }

    private void restOfEachMonth() {
        for (int month = 0; month <= 35; month++) {
            WellField f = pumping();
            due("rest of the month " + month, month + 1, f.rest(0, month, 1));
            dueRested("rest of the month " + month, f, month, month);
        }
        noSuchMonth("rest", (f, month) -> f.rest(0, month, 1));
    }

    private void restOfMonths() {
        for (int months : new int[] {1, 2, 35, 36}) {
            WellField f = pumping();
            due("rest of " + months, months * (months + 1) / 2, f.rest(0, 0, months));
            dueRested("rest of " + months, f, 0, months - 1);
        }
        outOfRange("rest of months", 1, 36, (f, months) -> f.rest(0, 0, months));
    }

    private void restBehindTheLastMonth() {
        int[][] rests = {{35, 1, 36}, {35, 2, 36}, {35, 36, 36}, {34, 2, 71}, {34, 3, 71}, {34, 36, 71}, {1, 36, 665}};
        for (int[] rest : rests) {
            WellField f = pumping();
            String of = "rest(0, " + rest[0] + ", " + rest[1] + ")";
            due(of, rest[2], f.rest(0, rest[0], rest[1]));
            due("the other well's first month", 500, f.pump(1, 0, 500));
            due("the other well's last month", 500, f.pump(1, 35, 500));
            dueRested(of, f, rest[0], 35);
        }
    }

    private void unitsNotPumped() {
        WellField f = Fields.wells(0);
        due("nothing pumped", 0, f.rest(0, 0, 36));
        pumpAllMonths(f, 0, 1000);
        due("as much as can be", 36000, f.rest(0, 0, 36));
        due("rested already", 0, f.rest(0, 0, 36));
        f.pump(0, 3, 20);
        f.pump(0, 4, 30);
        due("the month ahead of both", 0, f.rest(0, 2, 1));
        due("the first of both", 20, f.rest(0, 2, 2));
        due("the one that is left", 30, f.rest(0, 2, 3));
    }

    private void restOfNoWellOrMonth() {
        noIndex("well -1", Fields::full, f -> f.rest(-1, 0, 1));
        noIndex("well 8", Fields::full, f -> f.rest(8, 0, 36));
        noIndex("well 0 of none", Fields::empty, f -> f.rest(0, 0, 1));
        noIndex("month -1", Fields::full, f -> f.rest(0, -1, 36));
        noIndex("month 36", Fields::full, f -> f.rest(7, 36, 1));
        noIndex("well 8, months out of their range", Fields::full, f -> f.rest(8, 0, 0));
        noIndex("well 3 of three, months out of their range", Fields::part, f -> f.rest(3, 0, 37));
        noIndex("month -1, months out of their range", Fields::full, f -> f.rest(0, -1, 37));
        noIndex("month 36, months out of their range", Fields::full, f -> f.rest(0, 36, 0));
    }

    private void restOutOfRange() {
        noArgument("months 0", Fields::full, f -> f.rest(0, 0, 0));
        noArgument("months -1", Fields::full, f -> f.rest(0, 35, -1));
        noArgument("months 37", Fields::full, f -> f.rest(7, 0, 37));
        noArgument("months 37, most of them behind the month 35", Fields::full, f -> f.rest(7, 35, 37));
    }

    // ---- Promise 9

    private void pumpedInAYear() {
        WellField f = Fields.wells(0);
        due("nothing", 0, f.pumped(0, 0));
        f.pump(0, 0, 1);
        f.pump(0, 11, 2);
        f.pump(0, 12, 4);
        f.pump(0, 23, 8);
        f.pump(0, 24, 16);
        f.pump(0, 35, 32);
        due("the year 0", 1 + 2, f.pumped(0, 0));
        due("the year 1", 4 + 8, f.pumped(0, 1));
        due("the year 2", 16 + 32, f.pumped(0, 2));
        f.pump(0, 11, 0);
        due("corrected", 1, f.pumped(0, 0));
    }

    private void pumpedOfEachWell() {
        WellField f = Fields.wells(0, 0, 0, 0, 0, 0, 0, 0);
        for (int well = 0; well <= 7; well++) {
            f.pump(well, 0, well + 1);
            f.pump(well, 1, 10);
        }
        for (int well = 0; well <= 7; well++) {
            due("pumped by " + well, well + 11, f.pumped(well, 0));
        }
        noSuchWell("pumped", (g, well) -> g.pumped(well, 0));
    }

    private void pumpedOfEachYear() {
        WellField f = Fields.wells(0);
        for (int month = 0; month <= 35; month++) {
            f.pump(0, month, 1 + month / 12);
        }
        for (int year = 0; year <= 2; year++) {
            due("pumped in the year " + year, 12 * (1 + year), f.pumped(0, year));
        }
        noSuchYear("pumped", (g, year) -> g.pumped(0, year));
    }

    private void pumpedUnits() {
        WellField f = Fields.wells(0);
        pumpAllMonths(f, 0, 1000);
        for (int year = 0; year <= 2; year++) {
            due("as much as can be in the year " + year, 12000, f.pumped(0, year));
        }
        f.rest(0, 12, 12);
        due("a rested year", 0, f.pumped(0, 1));
        due("the year ahead of it", 12000, f.pumped(0, 0));
        due("the year behind it", 12000, f.pumped(0, 2));
    }

    private void pumpedOfNoWellOrYear() {
        noIndex("well -1", Fields::full, f -> f.pumped(-1, 0));
        noIndex("well 8", Fields::full, f -> f.pumped(8, 2));
        noIndex("well 0 of none", Fields::empty, f -> f.pumped(0, 0));
        noIndex("year -1", Fields::full, f -> f.pumped(0, -1));
        noIndex("year 3", Fields::full, f -> f.pumped(7, 3));
        noIndex("neither", Fields::part, f -> f.pumped(3, 3));
    }

    // ---- Promise 10

    private void beyondLicences() {
        WellField f = new WellField();
        f.well(90, 0, 100);
        f.well(90, 1, 50);
        f.well(90, 2, 0);
        due("nothing pumped", 0, f.beyond(0));
        f.pump(0, 0, 99);
        due("less than a licence", 0, f.beyond(0));
        f.pump(0, 11, 1);
        due("just a licence", 0, f.beyond(0));
        f.pump(0, 11, 2);
        due("one more", 1, f.beyond(0));
        f.pump(1, 3, 30);
        due("what one well leaves is not another one's", 1, f.beyond(0));
        f.pump(1, 4, 27);
        f.pump(2, 5, 300);
        due("together", 1 + 7 + 300, f.beyond(0));
        due("of another year", 0, f.beyond(1));
        f.trade(0, 2, 10);
        due("beyond the licences of now", 11 + 7 + 290, f.beyond(0));
    }

    private void beyondOfEachYear() {
        WellField f = new WellField();
        f.well(0, 0, 5);
        for (int year = 0; year <= 2; year++) {
            f.pump(0, 12 * year, 5);
            f.pump(0, 12 * year + 11, 10 * (year + 1));
        }
        for (int year = 0; year <= 2; year++) {
            due("beyond in the year " + year, 10 * (year + 1), f.beyond(year));
        }
        noSuchYear("beyond", (g, year) -> g.beyond(year));
    }

    private void beyondUnits() {
        due("no wells", 0, new WellField().beyond(2));
        WellField f = new WellField();
        for (int well = 0; well <= 7; well++) {
            f.well(0, 0, 0);
            pumpAllMonths(f, well, 1000);
        }
        for (int year = 0; year <= 2; year++) {
            due("as much as can be in the year " + year, 96000, f.beyond(year));
        }
        WellField g = new WellField();
        g.well(0, 0, 5000);
        pumpAllMonths(g, 0, 1000);
        due("beyond the greatest licence", 7000, g.beyond(0));
    }

    private void beyondOfNoYear() {
        noIndex("year -1", Fields::full, f -> f.beyond(-1));
        noIndex("year 3", Fields::full, f -> f.beyond(3));
        noIndex("year 3, no wells", Fields::empty, f -> f.beyond(3));
    }
}
