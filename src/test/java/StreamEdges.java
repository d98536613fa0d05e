/** The promises 17 and 18: the stream. */
final class StreamEdges extends Edges {
    StreamEdges(Sentences sentences) {
        super(sentences);
    }

    @Override
    void all() {
        section("Promise 17: taken");
        holds("Returns what is taken of the stream in a year.", this::takenInAYear);
        holds("`year`: 0 to 2", this::takenOfEachYear);
        holds("Returns the units.", this::takenUnits);
        holds("Throws `IndexOutOfBoundsException` if there is no such year", this::takenOfNoYear);
        section("Promise 18: takenLate");
        holds("Returns what a well takes of the stream in a year by what it pumped in earlier years.",
                this::byEarlierYears);
        holds("`well`: the well", this::takenLateOfEachWell);
        holds("`year`: 0 to 2", this::takenLateOfEachYear);
        holds("Returns the units.", this::takenLateUnits);
        holds("Throws `IndexOutOfBoundsException` if there is no such well or year", this::takenLateOfNone);
    }

    // ---- Promise 17

    private void takenInAYear() {
        WellField f = Fields.wells(4, 5);
        f.pump(0, 11, 5);
        due("the larger half in the month 11", 3, f.taken(0));
        due("the smaller half in the month 12", 2, f.taken(1));
        f.pump(0, 11, 0);
        f.pump(0, 10, 5);
        due("both halves in the year 0", 5, f.taken(0));
        due("neither in the year 1", 0, f.taken(1));
        f.pump(1, 10, 7);
        due("one month on from the place 5", 5 + 4, f.taken(0));
        due("and the other half", 3, f.taken(1));
        f.rest(1, 10, 1);
        due("rested", 5, f.taken(0));
        due("rested, and the other half", 0, f.taken(1));
    }

    private void takenOfEachYear() {
        WellField f = Fields.wells(0);
        for (int year = 0; year <= 2; year++) {
            f.pump(0, 12 * year, 2 * (year + 1));
        }
        for (int year = 0; year <= 2; year++) {
            due("taken in the year " + year, 2 * (year + 1), f.taken(year));
        }
        noSuchYear("taken", (g, year) -> g.taken(year));
    }

    private void takenUnits() {
        for (int year = 0; year <= 2; year++) {
            due("no wells", 0, new WellField().taken(year));
        }
        WellField f = Fields.wells(0, 0, 0, 0, 0, 0, 0, 0);
        for (int well = 0; well <= 7; well++) {
            pumpAllMonths(f, well, 1000);
        }
        due("as much as can be in the first year", 8 * 11500, f.taken(0));
        due("as much as can be in a year", 8 * 12000, f.taken(1));
        due("as much as can be in the last year", 8 * 12000, f.taken(2));
        WellField g = Fields.wells(99, 99, 99, 99, 99, 99, 99, 99);
        for (int well = 0; well <= 7; well++) {
            pumpAllMonths(g, well, 1000);
        }
        due("from the place 99 in the year 0", 0, g.taken(0));
        due("from the place 99 in the year 1", 8 * 4500, g.taken(1));
        due("from the place 99 in the year 2", 8 * 12000, g.taken(2));
        WellField least = Fields.wells(0);
        least.pump(0, 0, 1);
        due("one unit in the first month", 1, least.taken(0));
    }

    private void takenOfNoYear() {
        noIndex("year -1", Fields::full, f -> f.taken(-1));
        noIndex("year 3", Fields::full, f -> f.taken(3));
        noIndex("year 3, no wells", Fields::empty, f -> f.taken(3));
    }

    // ---- Promise 18

    private void byEarlierYears() {
        WellField f = Fields.wells(10);
        f.pump(0, 8, 6);
        due("both halves in the year 0", 0, f.takenLate(0, 1));
        f.pump(0, 9, 7);
        due("the smaller half is late", 3, f.takenLate(0, 1));
        f.pump(0, 10, 7);
        due("both halves are late", 10, f.takenLate(0, 1));
        f.pump(0, 11, 7);
        due("of the last month too", 17, f.takenLate(0, 1));
        f.pump(0, 12, 1000);
        due("not by what it pumped in that year", 17, f.takenLate(0, 1));
        f.pump(0, 21, 9);
        f.pump(0, 24, 1000);
        due("by the year 1", 4, f.takenLate(0, 2));
        due("the year 1 as it was", 17, f.takenLate(0, 1));
        WellField far = Fields.wells(99);
        far.pump(0, 4, 21);
        due("by the year 0 in the month 23", 11, far.takenLate(0, 1));
        due("by the year 0 in the month 24", 10, far.takenLate(0, 2));
        far.pump(0, 12, 4);
        due("by both earlier years", 14, far.takenLate(0, 2));
        far.pump(0, 16, 9);
        due("what falls behind the month 35 is not counted", 19, far.takenLate(0, 2));
    }

    private void takenLateOfEachWell() {
        WellField f = Fields.wells(60, 60, 60, 60, 60, 60, 60, 60);
        for (int well = 0; well <= 7; well++) {
            f.pump(well, 0, 10 + well);
        }
        for (int well = 0; well <= 7; well++) {
            due("taken late by " + well, 10 + well, f.takenLate(well, 1));
        }
        noSuchWell("takenLate", (g, well) -> g.takenLate(well, 1));
    }

    private void takenLateOfEachYear() {
        for (int place : new int[] {0, 55, 99}) {
            WellField f = Fields.wells(place);
            pumpAllMonths(f, 0, 1000);
            due("nothing is earlier than the year 0, from " + place, 0, f.takenLate(0, 0));
        }
        WellField f = Fields.wells(0);
        f.pump(0, 11, 3);
        f.pump(0, 23, 9);
        due("late in the year 1", 1, f.takenLate(0, 1));
        due("late in the year 2", 4, f.takenLate(0, 2));
        noSuchYear("takenLate", (g, year) -> g.takenLate(0, year));
    }

    private void takenLateUnits() {
        WellField f = Fields.wells(0, 60, 99);
        due("nothing pumped", 0, f.takenLate(0, 1));
        for (int well = 0; well <= 2; well++) {
            pumpAllMonths(f, well, 1000);
        }
        due("from the place 0 in the year 1", 500, f.takenLate(0, 1));
        due("from the place 0 in the year 2", 500, f.takenLate(0, 2));
        due("from the place 60 in the year 1", 11500, f.takenLate(1, 1));
        due("from the place 60 in the year 2", 12000, f.takenLate(1, 2));
        due("from the place 99 in the year 1", 4500, f.takenLate(2, 1));
        due("from the place 99 in the year 2", 12000, f.takenLate(2, 2));
        WellField one = Fields.wells(0);
        one.pump(0, 11, 1);
        due("one unit is taken at once", 0, one.takenLate(0, 1));
        one.pump(0, 11, 2);
        due("the other one of two is late", 1, one.takenLate(0, 1));
    }

    private void takenLateOfNone() {
        noIndex("well -1", Fields::full, f -> f.takenLate(-1, 0));
        noIndex("well 8", Fields::full, f -> f.takenLate(8, 2));
        noIndex("well 0 of none", Fields::empty, f -> f.takenLate(0, 0));
        noIndex("year -1", Fields::full, f -> f.takenLate(0, -1));
        noIndex("year 3", Fields::full, f -> f.takenLate(7, 3));
        noIndex("neither", Fields::part, f -> f.takenLate(3, 3));
    }
}
