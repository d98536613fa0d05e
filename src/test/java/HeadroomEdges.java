/** The promises 15 and 16: how much more a well could pump, and which well lowers a watch most. */
final class HeadroomEdges extends Edges {
    HeadroomEdges(Sentences sentences) {
        super(sentences);
    }

    @Override
    void all() {
        section("Promise 15: headroom");
        holds("Returns how much more a well could pump in a month so that no watch that is lowered by its pumping in "
                + "that month is over its limit in a month in which it is lowered by that.", this::couldPumpMore);
        holds("(A watch is lowered by pumping in a month only where the number of the table is above 0",
                this::onlyWhereTheNumberIsAboveZero);
        holds("whether anything is pumped or not", this::pumpedOrNot);
        holds("months behind the month 35 do not matter.)", this::headroomBehindTheLastMonth);
        holds("`well`: the well", this::headroomOfEachWell);
        holds("`month`: 0 to 35", this::headroomOfEachMonth);
        holds("Returns the units, at most 1000 less what it pumps in that month", this::atMostAThousand);
        holds("0 if such a watch is over its limit in such a month already", this::overAlready);
        holds("Throws `IndexOutOfBoundsException` if there is no such well or month", this::headroomOfNone);
        section("Promise 16: heaviest");
        holds("Returns the well whose pumping of a month lowers a watch most in all", this::lowersMost);
        holds("over all months up to the month 35", this::upToTheLastMonth);
        holds("of several the lowest", this::lowestOfSeveral);
        holds("`watch`: the watch", this::heaviestOfEachWatch);
        holds("`month`: 0 to 35: the month of pumping", this::heaviestOfEachMonth);
        holds("Returns the well", this::eachWellCanBeHeaviest);
        holds("NONE if none lowers it", this::noneLowersIt);
        holds("Throws `IndexOutOfBoundsException` if there is no such watch or month", this::heaviestOfNone);
    }

    // ---- Promise 15

    private void couldPumpMore() {
        WellField f = Fields.wells(0, 10);
        f.watch(0, 7);
        f.response(0, 3, 300);
        due("rounded down", 23, f.headroom(0, 0));
        f.pump(0, 0, 23);
        due("pumped so", 0, f.over(0));
        due("no more then", 0, f.headroom(0, 0));
        f.pump(0, 0, 24);
        due("one more", 1, f.over(0));
        f.pump(0, 0, 0);
        f.response(1, 0, 1);
        f.pump(1, 3, 100);
        due("just 23 left", 23, f.headroom(0, 0));
        f.pump(1, 3, 101);
        due("a thousandth less than 23 left", 22, f.headroom(0, 0));
        f.pump(1, 4, 1000);
        due("lowered in a month that does not matter", 22, f.headroom(0, 0));
        tightestOfAll();
    }

    private void tightestOfAll() {
        for (int tight = 0; tight <= 3; tight++) {
            WellField f = Fields.wells(0);
            for (int watch = 0; watch <= 3; watch++) {
                f.watch(0, watch == tight ? 7 : 8);
            }
            f.response(0, 0, 100);
            due("the watch " + tight + " is the tightest", 70, f.headroom(0, 35));
        }
        for (int tight = 0; tight <= 11; tight++) {
            WellField f = Fields.wells(0);
            f.watch(0, 7);
            for (int delay = 0; delay <= 11; delay++) {
                f.response(0, delay, delay == tight ? 140 : 100);
            }
            due("the delay " + tight + " is the tightest", 50, f.headroom(0, 24));
        }
    }

    private void onlyWhereTheNumberIsAboveZero() {
        WellField f = Fields.wells(0, 0);
        f.watch(0, 0);
        due("no numbers", 1000, f.headroom(0, 0));
        f.response(0, 5, 1);
        due("a number of 1, a limit of 0", 0, f.headroom(0, 0));
        f.response(0, 5, 0);
        f.response(0, 6, 1);
        f.pump(1, 5, 1);
        due("over it in the month 11", 1, f.over(0));
        due("lowered in the month 11 by the month 5", 0, f.headroom(0, 5));
        WellField g = Fields.wells(0, 10, 99);
        g.watch(10, 2);
        g.response(0, 0, 1000);
        g.response(1, 1, 500);
        g.pump(1, 3, 1000);
        due("over it only where it is not lowered", 4, g.headroom(0, 4));
        due("over it where it is lowered", 0, g.headroom(0, 2));
        due("a well beyond the reach 4", 1000, g.headroom(2, 3));
    }

    private void pumpedOrNot() {
        WellField f = Fields.wells(0, 0);
        f.watch(0, 1);
        f.response(0, 0, 100);
        f.pump(1, 0, 11);
        due("the well pumps nothing, and the watch is over its limit", 0, f.headroom(0, 0));
        f.pump(1, 0, 4);
        due("the well pumps nothing", 6, f.headroom(0, 0));
        f.pump(0, 0, 4);
        due("the well pumps", 2, f.headroom(0, 0));
        f.pump(1, 0, 0);
        due("the well alone pumps", 6, f.headroom(0, 0));
        f.pump(0, 0, 0);
        due("none pumps", 10, f.headroom(0, 0));
    }

    private void headroomBehindTheLastMonth() {
        for (int delay = 0; delay <= 11; delay++) {
            WellField f = Fields.wells(0);
            f.watch(0, 0);
            f.response(0, delay, 1000);
            int last = 35 - delay;
            due("lowered in the month 35 by the month " + last, 0, f.headroom(0, last));
            if (delay > 0) {
                due("lowered behind it by the month " + (last + 1), 1000, f.headroom(0, last + 1));
                due("lowered behind it by the month 35", 1000, f.headroom(0, 35));
            }
        }
    }

    private void headroomOfEachWell() {
        WellField f = Fields.wells(0, 0, 0, 0, 0, 0, 0, 0);
        f.watch(0, 100);
        f.response(0, 0, 1000);
        for (int well = 0; well <= 7; well++) {
            f.pump(well, 9, 1);
            f.pump(well, 10, 10 * well);
        }
        for (int well = 0; well <= 7; well++) {
            due("headroom of " + well + " beside the others", 92, f.headroom(well, 9));
        }
        f.response(0, 0, 0);
        for (int well = 0; well <= 7; well++) {
            due("headroom of " + well, 1000 - 10 * well, f.headroom(well, 10));
        }
        noSuchWell("headroom", (g, well) -> g.headroom(well, 0));
    }

    private void headroomOfEachMonth() {
        WellField f = Fields.wells(0);
        f.watch(0, 100);
        f.response(0, 0, 1000);
        for (int month = 0; month <= 35; month++) {
            f.pump(0, month, month);
        }
        for (int month = 0; month <= 35; month++) {
            due("headroom in " + month, 100 - month, f.headroom(0, month));
        }
        noSuchMonth("headroom", (g, month) -> g.headroom(0, month));
    }

    private void atMostAThousand() {
        WellField f = Fields.wells(0);
        for (int units : new int[] {0, 1, 999, 1000}) {
            f.pump(0, 0, units);
            due("no watches, pumping " + units, 1000 - units, f.headroom(0, 0));
            due("no watches, another month", 1000, f.headroom(0, 1));
        }
        f.watch(0, 10000);
        f.response(0, 0, 1);
        due("a watch with room left, pumping 1000", 0, f.headroom(0, 0));
        f.pump(0, 0, 400);
        due("a watch with room left, pumping 400", 600, f.headroom(0, 0));
        WellField g = Fields.wells(0);
        g.watch(0, 1000);
        g.response(0, 0, 1000);
        due("just 1000 units", 1000, g.headroom(0, 0));
        g.pump(0, 0, 1);
        due("just 999 units", 999, g.headroom(0, 0));
        g.watch(0, 999);
        due("998 units by a limit of 999", 998, g.headroom(0, 0));
    }

    private void overAlready() {
        WellField f = Fields.wells(0, 10, 10);
        f.watch(0, 2);
        f.response(0, 0, 1000);
        f.response(1, 0, 1);
        f.response(1, 1, 1000);
        f.pump(1, 0, 1000);
        due("half of the limit is left", 1, f.headroom(0, 0));
        f.pump(2, 0, 1);
        due("less than a unit is left", 0, f.headroom(0, 0));
        f.pump(2, 0, 1000);
        due("just at the limit", 0, f.headroom(0, 0));
        f.pump(0, 0, 1);
        due("over it by its own pumping", 0, f.headroom(0, 0));
        due("over it by far, in the month behind", 0, f.headroom(0, 1));
        due("not over it one month later", 2, f.headroom(0, 2));
    }

    private void headroomOfNone() {
        noIndex("well -1", Fields::full, f -> f.headroom(-1, 0));
        noIndex("well 8", Fields::full, f -> f.headroom(8, 35));
        noIndex("well 0 of none", Fields::empty, f -> f.headroom(0, 0));
        noIndex("month -1", Fields::full, f -> f.headroom(0, -1));
        noIndex("month 36", Fields::full, f -> f.headroom(7, 36));
        noIndex("neither", Fields::part, f -> f.headroom(3, 36));
    }

    // ---- Promise 16

    private void lowersMost() {
        WellField f = Fields.wells(0, 10, 20);
        f.watch(0, 0);
        f.response(0, 0, 10);
        f.response(1, 0, 4);
        f.response(1, 1, 4);
        f.response(1, 11, 4);
        f.response(2, 3, 1);
        f.pump(0, 0, 100);
        f.pump(1, 0, 83);
        f.pump(2, 0, 999);
        due("1000 against 996 and 999", 0, f.heaviest(0, 0));
        f.pump(1, 0, 84);
        due("1000 against 1008 and 999", 1, f.heaviest(0, 0));
        f.response(2, 4, 1);
        due("1000 against 1008 and 1998", 2, f.heaviest(0, 0));
        f.pump(0, 1, 1000);
        due("what is pumped in another month does not matter", 2, f.heaviest(0, 0));
    }

    private void upToTheLastMonth() {
        for (int delay = 1; delay <= 11; delay++) {
            WellField f = Fields.wells(0, 10);
            f.watch(0, 0);
            f.response(0, 0, 1);
            f.response(1, delay, 2);
            int last = 35 - delay;
            f.pump(0, last, 1);
            f.pump(1, last, 1);
            f.pump(0, last + 1, 1);
            f.pump(1, last + 1, 1);
            due("lowered in the month 35 by the month " + last, 1, f.heaviest(0, last));
            due("lowered behind it by the month " + (last + 1), 0, f.heaviest(0, last + 1));
        }
    }

    private void lowestOfSeveral() {
        WellField f = Fields.wells(0, 0, 0, 0, 0, 0, 0, 0);
        f.watch(5, 0);
        f.response(0, 0, 1);
        for (int well = 7; well >= 0; well--) {
            f.pump(well, 0, 10);
            due("the lowest of those from " + well, well, f.heaviest(0, 0));
        }
        f.pump(3, 0, 11);
        f.pump(6, 0, 11);
        due("the lowest of the two that pump most", 3, f.heaviest(0, 0));
        WellField g = Fields.wells(10, 0);
        g.watch(0, 0);
        g.response(1, 2, 30);
        g.response(0, 3, 20);
        g.pump(0, 0, 2);
        g.pump(1, 0, 3);
        due("60 by other numbers", 0, g.heaviest(0, 0));
    }

    private void heaviestOfEachWatch() {
        WellField f = Fields.wells(0, 30, 60, 90);
        for (int watch = 0; watch <= 3; watch++) {
            f.watch(30 * watch, 0);
        }
        f.response(0, 0, 1);
        for (int well = 0; well <= 3; well++) {
            f.pump(well, 0, 1);
        }
        for (int watch = 0; watch <= 3; watch++) {
            due("heaviest of " + watch, watch, f.heaviest(watch, 0));
        }
        noSuchWatch("heaviest", (g, watch) -> g.heaviest(watch, 0));
    }

    private void heaviestOfEachMonth() {
        WellField f = Fields.wells(0, 0, 0);
        f.watch(0, 0);
        f.response(0, 0, 1);
        for (int month = 0; month <= 35; month++) {
            f.pump(month % 3, month, 1);
        }
        for (int month = 0; month <= 35; month++) {
            due("heaviest in " + month, month % 3, f.heaviest(0, month));
        }
        noSuchMonth("heaviest", (g, month) -> g.heaviest(0, month));
    }

    private void eachWellCanBeHeaviest() {
        for (int heavy = 0; heavy <= 7; heavy++) {
            WellField f = Fields.wells(0, 0, 0, 0, 0, 0, 0, 0);
            f.watch(0, 0);
            f.response(0, 0, 1000);
            for (int well = 0; well <= 7; well++) {
                f.pump(well, 0, well == heavy ? 1000 : 999);
            }
            due("heaviest", heavy, f.heaviest(0, 0));
        }
        WellField least = Fields.wells(0);
        least.watch(0, 0);
        least.response(0, 11, 1);
        least.pump(0, 24, 1);
        due("by one thousandth", 0, least.heaviest(0, 24));
    }

    private void noneLowersIt() {
        WellField f = new WellField();
        f.watch(0, 0);
        f.response(0, 1, 1000);
        due("no wells", WellField.NONE, f.heaviest(0, 0));
        f.well(0, 0, 0);
        due("nothing pumped", WellField.NONE, f.heaviest(0, 0));
        f.pump(0, 0, 1);
        due("pumped", 0, f.heaviest(0, 0));
        due("pumped, but not in that month", WellField.NONE, f.heaviest(0, 1));
        f.pump(0, 35, 1000);
        due("lowered behind the month 35 alone", WellField.NONE, f.heaviest(0, 35));
        f.response(0, 1, 0);
        due("no numbers", WellField.NONE, f.heaviest(0, 0));
        f.well(50, 0, 0);
        fillTable(f, 1000);
        f.rest(0, 0, 36);
        f.pump(1, 0, 1000);
        due("beyond the reach 4 alone", WellField.NONE, f.heaviest(0, 0));
    }

    private void heaviestOfNone() {
        noIndex("watch -1", Fields::full, f -> f.heaviest(-1, 0));
        noIndex("watch 4", Fields::full, f -> f.heaviest(4, 35));
        noIndex("watch 0 of none", Fields::empty, f -> f.heaviest(0, 0));
        noIndex("month -1", Fields::full, f -> f.heaviest(0, -1));
        noIndex("month 36", Fields::full, f -> f.heaviest(3, 36));
        noIndex("neither", Fields::part, f -> f.heaviest(2, 36));
    }
}
