/** The promises 22 and 23: trades. */
final class TradeEdges extends Edges {
    TradeEdges(Sentences sentences) {
        super(sentences);
    }

    @Override
    void all() {
        section("Promise 22: trade");
        holds("Trades.", this::trades);
        holds("`from`: the well that gives", this::eachWellGives);
        holds("`to`: the well that gets, another one", this::eachWellGets);
        holds("`units`: 1 to 5000", this::tradeOfUnits);
        holds("Returns the units that the other one gets.", this::unitsGot);
        holds("Throws `IndexOutOfBoundsException` if there is no such well", this::tradeOfNoWell);
        holds("Throws `IllegalArgumentException` if both are the same, or units is out of its range",
                this::tradeOfWrongUnits);
        holds("Throws `IllegalStateException` if the licence is less than the units", this::licenceIsLess);
        holds("that of the other one would be above 20000", this::aboveTwentyThousand);
        holds("or a watch would have a greater even burden", this::greaterEvenBurden);
        section("Promise 23: mostTraded");
        holds("Returns the most units that could be traded so", this::mostOfAll);
        holds("though fewer perhaps could not (as what the other one gets is rounded down).", this::fewerCouldNot);
        holds("`from`: the well that gives", this::mostFromEachWell);
        holds("`to`: the well that gets, another one", this::mostToEachWell);
        holds("Returns the units, 0 if no trade could be made.", this::noTradeCouldBeMade);
        holds("Throws `IndexOutOfBoundsException` if there is no such well", this::mostOfNoWell);
        holds("Throws `IllegalArgumentException` if both are the same", this::mostOfTheSame);
    }

    /** A well of the zone 0 that gives and one of the zone 1 that gets, by a ratio. */
    private static WellField twoWells(int giver, int getter, int ratio) {
        WellField f = new WellField();
        f.well(0, 0, giver);
        f.well(10, 1, getter);
        f.ratio(0, 1, ratio);
        return f;
    }

    /** The well 1 has got 10000 units and has so many now, 10000 to 15000; the well 2 has 5000 to give to it. */
    private static WellField grownTo(int licence) {
        WellField f = twoWells(5000, licence - 10000, 200);
        f.well(0, 0, 5000);
        f.trade(0, 1, 5000);
        return f;
    }

    /** The same, with just 20000 units and the ratio 1. */
    private static WellField atTwentyThousand() {
        WellField f = grownTo(15000);
        f.trade(2, 1, 2500);
        f.ratio(0, 1, 1);
        return f;
    }

    /** The well 0 lowers the watch by 2 in all for each unit, the well 1 by 3. */
    private static WellField lowered(int giver, int ratio) {
        WellField f = twoWells(giver, 0, ratio);
        f.watch(0, 0);
        f.response(0, 0, 1);
        f.response(0, 11, 1);
        f.response(1, 6, 3);
        return f;
    }

    // ---- Promise 22

    private void trades() {
        WellField f = twoWells(100, 10, 85);
        due("rounded down", 5, f.trade(0, 1, 7));
        due("taken", 93, f.licence(0));
        due("added", 15, f.licence(1));
        due("back again, all of it", 15, f.trade(1, 0, 15));
        due("taken, all of it", 0, f.licence(1));
        due("added", 108, f.licence(0));
        WellField same = Fields.wells(0, 0);
        same.ratio(0, 0, 50);
        due("within a zone", 5, same.trade(0, 1, 11));
        WellField none = twoWells(9, 9, 0);
        due("nothing got", 0, none.trade(0, 1, 9));
        due("given all the same", 0, none.licence(0));
        due("as before", 9, none.licence(1));
        WellField pumped = twoWells(100, 0, 100);
        pumped.pump(0, 0, 100);
        due("what is pumped already can be traded", 100, pumped.trade(0, 1, 100));
        due("and is beyond the licence then", 100, pumped.beyond(0));
    }

    private void eachWellGives() {
        for (int from = 0; from <= 7; from++) {
            WellField f = Fields.wells(0, 0, 0, 0, 0, 0, 0, 0);
            f.trade(from, (from + 1) % 8, 10);
            for (int well = 0; well <= 7; well++) {
                int due = well == from ? 990 : well == (from + 1) % 8 ? 1010 : 1000;
                due("licence of " + well + ", given by " + from, due, f.licence(well));
            }
        }
        noSuchWell("trade from", (f, from) -> f.trade(from, 0, 1));
    }

    private void eachWellGets() {
        for (int to = 0; to <= 7; to++) {
            WellField f = Fields.wells(0, 0, 0, 0, 0, 0, 0, 0);
            f.trade((to + 7) % 8, to, 10);
            due("licence of the one that gets", 1010, f.licence(to));
            due("licence of the one that gives", 990, f.licence((to + 7) % 8));
            int same = to;
            noArgument("trade of " + to + " with itself", Fields::full, g -> g.trade(same, same, 1));
        }
        noSuchWell("trade to", (f, to) -> f.trade(0, to, 1));
    }

    private void tradeOfUnits() {
        for (int units : new int[] {1, 2, 4999, 5000}) {
            WellField f = twoWells(5000, 0, 100);
            due("trade of " + units, units, f.trade(0, 1, units));
            due("left of 5000", 5000 - units, f.licence(0));
        }
        outOfRange("trade of units", 1, 5000, (f, units) -> f.trade(1, 2, units));
    }

    private void unitsGot() {
        int[][] trades = {
            {1, 0, 0}, {1, 99, 0}, {1, 100, 1}, {1, 200, 2}, {3, 50, 1}, {7, 199, 13}, {5000, 200, 10000}};
        for (int[] trade : trades) {
            WellField f = twoWells(5000, 1, trade[1]);
            String of = trade[0] + " units by the ratio " + trade[1];
            due(of, trade[2], f.trade(0, 1, trade[0]));
            due(of + ", added", 1 + trade[2], f.licence(1));
        }
    }

    private void tradeOfNoWell() {
        noIndex("from -1", Fields::full, f -> f.trade(-1, 0, 1));
        noIndex("from 8", Fields::full, f -> f.trade(8, 0, 1));
        noIndex("to -1", Fields::full, f -> f.trade(7, -1, 1));
        noIndex("to 8", Fields::full, f -> f.trade(7, 8, 1));
        noIndex("from 0 of none", Fields::empty, f -> f.trade(0, 1, 1));
        noIndex("to 1 of one", () -> Fields.wells(0), f -> f.trade(0, 1, 1));
        noIndex("both -1", Fields::full, f -> f.trade(-1, -1, 1));
        noIndex("both 3 of three", Fields::part, f -> f.trade(3, 3, 1));
        noIndex("from 8, no units", Fields::full, f -> f.trade(8, 0, 0));
        noIndex("to 8, too many units", Fields::full, f -> f.trade(0, 8, 5001));
        noIndex("to 8, the licence is less", Fields::full, f -> f.trade(0, 8, 5000));
    }

    private void tradeOfWrongUnits() {
        noArgument("both are the first well", Fields::full, f -> f.trade(0, 0, 1));
        noArgument("both are the last well", Fields::full, f -> f.trade(7, 7, 1));
        noArgument("the same, and no units", Fields::full, f -> f.trade(7, 7, 0));
        noArgument("the same, and the licence is less", Fields::full, f -> f.trade(7, 7, 5000));
        noArgument("no units", Fields::full, f -> f.trade(7, 1, 0));
        noArgument("less than no units", Fields::full, f -> f.trade(7, 1, -1));
        noArgument("too many units", () -> grownTo(15000), f -> f.trade(1, 0, 5001));
        noArgument("too many units, and the licence is less", Fields::full, f -> f.trade(0, 1, 5001));
        noArgument("too many units, and above 20000", () -> grownTo(15000), f -> f.trade(2, 1, 5001));
        noArgument("no units, where each trade is too much", () -> lowered(10, 100), f -> f.trade(0, 1, 0));
        noArgument("too many units, and a greater burden", () -> lowered(5000, 100), f -> f.trade(0, 1, 5001));
    }

    private void licenceIsLess() {
        for (int licence : new int[] {1, 100, 4999}) {
            due("just the licence", licence, twoWells(licence, 0, 100).trade(0, 1, licence));
            noState("one more than the licence", () -> twoWells(licence, 0, 100), f -> f.trade(0, 1, licence + 1));
        }
        noState("no licence", () -> twoWells(0, 5000, 100), f -> f.trade(0, 1, 1));
        noState("no licence, and nothing would be got", () -> twoWells(0, 5000, 0), f -> f.trade(0, 1, 1));
        WellField f = twoWells(100, 0, 100);
        f.trade(0, 1, 60);
        due("the licence of now", 40, f.trade(0, 1, 40));
    }

    private void aboveTwentyThousand() {
        due("just 20000", 5000, grownTo(15000).trade(2, 1, 2500));
        due("just 19999", 5000, grownTo(14999).trade(2, 1, 2500));
        noState("just 20001", () -> grownTo(14999), f -> f.trade(2, 1, 2501));
        noState("just 20002", () -> grownTo(15000), f -> f.trade(2, 1, 2501));
        WellField f = atTwentyThousand();
        due("at 20000", 20000, f.licence(1));
        due("nothing is got, at 20000", 0, f.trade(2, 1, 99));
        due("still at 20000", 20000, f.licence(1));
        noState("one unit would be got, at 20000", TradeEdges::atTwentyThousand, g -> g.trade(2, 1, 100));
        due("the one at 20000 gives", 5000, f.trade(1, 2, 5000));
    }

    private void greaterEvenBurden() {
        noState("3 for 2", () -> lowered(100, 100), f -> f.trade(0, 1, 1));
        noState("201 for 200", () -> lowered(100, 67), f -> f.trade(0, 1, 100));
        due("just the same burden", 2, lowered(100, 67).trade(0, 1, 3));
        due("less of it", 66, lowered(100, 66).trade(0, 1, 100));
        due("nothing got", 0, lowered(100, 67).trade(0, 1, 1));
        WellField back = lowered(0, 100);
        back.well(10, 1, 100);
        due("2 for 3, the other way", 33, back.trade(2, 0, 33));
        for (int worse = 0; worse <= 3; worse++) {
            int only = worse;
            noState("the watch " + worse + " alone", () -> farWatches(only), f -> f.trade(0, 1, 1));
        }
        due("watches beyond the reach 4", 1, farWatches(4).trade(0, 1, 1));
        due("no watches", 100, twoWells(100, 0, 100).trade(0, 1, 100));
    }

    /** Four watches beyond the reach 4, but for one at the place of the well 1. */
    private static WellField farWatches(int near) {
        WellField f = twoWells(100, 100, 100);
        fillTable(f, 1);
        for (int watch = 0; watch <= 3; watch++) {
            f.watch(watch == near ? 59 : 60, 10000);
        }
        return f;
    }

    // ---- Promise 23

    private void mostOfAll() {
        due("the whole licence", 101, twoWells(101, 0, 100).mostTraded(0, 1));
        due("a licence of 5000", 5000, twoWells(5000, 0, 100).mostTraded(0, 1));
        due("the units of one trade, of a licence of 15000", 5000, grownTo(15000).mostTraded(1, 0));
        due("up to 20000", 2500, grownTo(15000).mostTraded(2, 1));
        due("up to 19999", 2500, grownTo(14999).mostTraded(2, 1));
        due("at 20000, as long as nothing is got", 99, atTwentyThousand().mostTraded(2, 1));
        due("one unit", 1, twoWells(1, 0, 100).mostTraded(0, 1));
        WellField f = lowered(100, 66);
        due("the whole licence, with a lesser burden", 100, f.mostTraded(0, 1));
        due("told, not traded", 100, f.licence(0));
        f.trade(0, 1, 40);
        due("the licence of now", 60, f.mostTraded(0, 1));
    }

    private void fewerCouldNot() {
        for (int licence = 1; licence <= 12; licence++) {
            int most = 0;
            for (int units = 1; units <= licence; units++) {
                most = 3 * (units * 70 / 100) <= 2 * units ? units : most;
            }
            due("of " + licence + " units by the ratio 70", most, lowered(licence, 70).mostTraded(0, 1));
        }
        WellField f = lowered(101, 67);
        due("101 units get 67", 101, f.mostTraded(0, 1));
        noState("100 units get 67 too", () -> lowered(101, 67), g -> g.trade(0, 1, 100));
        due("101 units can be traded", 67, f.trade(0, 1, 101));
        WellField g = lowered(100, 67);
        due("100 units can not, 99 get 66", 99, g.mostTraded(0, 1));
        due("99 units can be traded", 66, g.trade(0, 1, 99));
        due("3 units get 2, more get too much", 3, lowered(100, 99).mostTraded(0, 1));
    }

    private void mostFromEachWell() {
        WellField f = new WellField();
        for (int well = 0; well <= 7; well++) {
            f.well(0, 0, 10 * well);
        }
        for (int from = 0; from <= 7; from++) {
            due("mostTraded from " + from, 10 * from, f.mostTraded(from, (from + 1) % 8));
        }
        noSuchWell("mostTraded from", (g, from) -> g.mostTraded(from, 0));
    }

    private void mostToEachWell() {
        for (int to = 0; to <= 7; to++) {
            WellField f = Fields.wells(0, 0, 0, 0, 0, 0, 0, 0);
            f.ratio(0, 0, 0);
            f.trade(to, (to + 1) % 8, 400);
            due("mostTraded of the one that has less", 600, f.mostTraded(to, (to + 3) % 8));
            due("mostTraded to it", 1000, f.mostTraded((to + 3) % 8, to));
            int same = to;
            noArgument("mostTraded of " + to + " with itself", Fields::full, g -> g.mostTraded(same, same));
        }
        noSuchWell("mostTraded to", (f, to) -> f.mostTraded(0, to));
    }

    private void noTradeCouldBeMade() {
        due("no licence", 0, twoWells(0, 100, 100).mostTraded(0, 1));
        due("no licence, and nothing would be got", 0, twoWells(0, 100, 0).mostTraded(0, 1));
        due("a greater burden by each", 0, lowered(100, 100).mostTraded(0, 1));
        WellField f = atTwentyThousand();
        f.ratio(0, 1, 100);
        due("above 20000 by each", 0, f.mostTraded(2, 1));
        f.ratio(0, 1, 50);
        due("above 20000 by all but one unit", 1, f.mostTraded(2, 1));
        due("watches near the well that gets", 0, farWatches(3).mostTraded(0, 1));
    }

    private void mostOfNoWell() {
        noIndex("from -1", Fields::full, f -> f.mostTraded(-1, 0));
        noIndex("from 8", Fields::full, f -> f.mostTraded(8, 0));
        noIndex("to -1", Fields::full, f -> f.mostTraded(0, -1));
        noIndex("to 8", Fields::full, f -> f.mostTraded(0, 8));
        noIndex("from 0 of none", Fields::empty, f -> f.mostTraded(0, 1));
        noIndex("to 1 of one", () -> Fields.wells(0), f -> f.mostTraded(0, 1));
        noIndex("both 8", Fields::full, f -> f.mostTraded(8, 8));
        noIndex("both 3 of three", Fields::part, f -> f.mostTraded(3, 3));
    }

    private void mostOfTheSame() {
        noArgument("both are the first well", Fields::full, f -> f.mostTraded(0, 0));
        noArgument("both are the last well", Fields::full, f -> f.mostTraded(7, 7));
        noArgument("both are the only well", () -> Fields.wells(0), f -> f.mostTraded(0, 0));
    }
}
