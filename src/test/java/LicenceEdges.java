/** The promises 19 to 21: licences, ratios, burdens. */
final class LicenceEdges extends Edges {
    LicenceEdges(Sentences sentences) {
        super(sentences);
    }

    @Override
    void all() {
        section("Promise 19: licence");
        holds("Returns the licence of a well.", this::licenceOfNow);
        holds("`well`: the well", this::licenceOfEachWell);
        holds("Returns the units for each year.", this::licenceUnits);
        holds("Throws `IndexOutOfBoundsException` if there is no such well", this::licenceOfNoWell);
        section("Promise 20: ratio");
        holds("Sets the ratio of trades from one zone to another one.", this::setsOneRatio);
        holds("`from`: 0 to 2", this::ratioFrom);
        holds("`to`: 0 to 2", this::ratioTo);
        holds("`ratio`: 0 to 200, in hundredths", this::ratioInHundredths);
        holds("Returns the ratio before.", this::ratioBefore);
        holds("Throws `IndexOutOfBoundsException` if there is no such zone", this::ratioOfNoZone);
        holds("Throws `IllegalArgumentException` if ratio is out of its range", this::ratioOutOfRange);
        section("Promise 21: burden");
        holds("Returns the even burden of a watch.", this::burdenOfNow);
        holds("`watch`: the watch", this::burdenOfEachWatch);
        holds("Returns the burden, in thousandths.", this::burdenInThousandths);
        holds("Throws `IndexOutOfBoundsException` if there is no such watch", this::burdenOfNoWatch);
    }

    // ---- Promise 19

    private void licenceOfNow() {
        WellField f = Fields.wells(0, 0);
        due("as it was added", 1000, f.licence(0));
        f.pump(0, 0, 1000);
        due("pumping uses none of it", 1000, f.licence(0));
        f.trade(0, 1, 1);
        due("one traded away", 999, f.licence(0));
        due("one got", 1001, f.licence(1));
        f.trade(0, 1, 999);
        due("all traded away", 0, f.licence(0));
        due("all got", 2000, f.licence(1));
    }

    private void licenceOfEachWell() {
        WellField f = new WellField();
        for (int well = 0; well <= 7; well++) {
            f.well(0, 0, 10 * well);
        }
        for (int well = 0; well <= 7; well++) {
            due("licence of " + well, 10 * well, f.licence(well));
        }
        noSuchWell("licence", (g, well) -> g.licence(well));
    }

    private void licenceUnits() {
        WellField f = new WellField();
        f.well(0, 0, 5000);
        f.well(0, 1, 5000);
        f.well(0, 0, 5000);
        f.well(0, 0, 0);
        f.ratio(0, 1, 200);
        due("no units", 0, f.licence(3));
        f.trade(0, 1, 5000);
        due("more than a new well can have", 15000, f.licence(1));
        f.trade(2, 1, 2500);
        due("as many as can be", 20000, f.licence(1));
    }

    private void licenceOfNoWell() {
        noIndex("well -1", Fields::full, f -> f.licence(-1));
        noIndex("well 8", Fields::full, f -> f.licence(8));
        noIndex("well 3 of three", Fields::part, f -> f.licence(3));
        noIndex("well 0 of none", Fields::empty, f -> f.licence(0));
    }

    // ---- Promise 20

    private void setsOneRatio() {
        WellField f = new WellField();
        f.well(0, 0, 1000);
        f.well(0, 1, 1000);
        f.ratio(0, 1, 50);
        due("from the one to the other", 50, f.trade(0, 1, 100));
        due("back again", 100, f.trade(1, 0, 100));
        f.ratio(0, 1, 20);
        due("by the ratio of now", 20, f.trade(0, 1, 100));
        for (int from = 0; from <= 2; from++) {
            for (int to = 0; to <= 2; to++) {
                int due = from == 0 && to == 1 ? 20 : 100;
                due("the ratio from " + from + " to " + to, due, f.ratio(from, to, due));
            }
        }
    }

    private void ratioFrom() {
        for (int from = 0; from <= 2; from++) {
            WellField f = new WellField();
            f.well(0, from, 100);
            f.well(0, 1, 0);
            f.ratio(from, 1, 30);
            due("from the zone " + from, 30, f.trade(0, 1, 100));
        }
        noSuchZone("ratio from", (f, from) -> f.ratio(from, 0, 0));
    }

    private void ratioTo() {
        for (int to = 0; to <= 2; to++) {
            WellField f = new WellField();
            f.well(0, 1, 100);
            f.well(0, to, 0);
            f.ratio(1, to, 30);
            due("to the zone " + to, 30, f.trade(0, 1, 100));
        }
        noSuchZone("ratio to", (f, to) -> f.ratio(0, to, 0));
    }

    private void ratioInHundredths() {
        for (int ratio : new int[] {0, 1, 99, 100, 101, 199, 200}) {
            WellField f = Fields.wells(0, 0);
            f.ratio(0, 0, ratio);
            due("100 units by the ratio " + ratio, ratio, f.trade(0, 1, 100));
        }
        outOfRange("ratio", 0, 200, (f, ratio) -> f.ratio(0, 0, ratio));
    }

    private void ratioBefore() {
        WellField f = new WellField();
        for (int zone : new int[] {0, 2}) {
            due("at first", 100, f.ratio(zone, 2, 200));
            due("set", 200, f.ratio(zone, 2, 200));
            due("set to the same", 200, f.ratio(zone, 2, 1));
            due("set to less", 1, f.ratio(zone, 2, 0));
            due("set to 0", 0, f.ratio(zone, 2, 0));
        }
    }

    private void ratioOfNoZone() {
        noIndex("from -1", Fields::full, f -> f.ratio(-1, 0, 0));
        noIndex("from 3", Fields::full, f -> f.ratio(3, 2, 200));
        noIndex("to -1", Fields::full, f -> f.ratio(0, -1, 0));
        noIndex("to 3", Fields::full, f -> f.ratio(2, 3, 200));
        noIndex("neither", Fields::empty, f -> f.ratio(3, 3, 0));
        noIndex("from -1, ratio out of its range", Fields::full, f -> f.ratio(-1, 0, -1));
        noIndex("from 3, ratio out of its range", Fields::full, f -> f.ratio(3, 0, 201));
        noIndex("to -1, ratio out of its range", Fields::full, f -> f.ratio(0, -1, -1));
        noIndex("to 3, ratio out of its range", Fields::full, f -> f.ratio(0, 3, 201));
    }

    private void ratioOutOfRange() {
        noArgument("ratio -1", Fields::full, f -> f.ratio(0, 0, -1));
        noArgument("ratio 201", Fields::full, f -> f.ratio(2, 2, 201));
    }

    // ---- Promise 21

    private void burdenOfNow() {
        WellField f = new WellField();
        f.well(0, 0, 30);
        f.well(49, 1, 7);
        f.well(50, 2, 5000);
        f.watch(0, 0);
        f.response(0, 0, 10);
        due("the delay 0", 300, f.burden(0));
        f.response(0, 11, 1);
        due("the delay 11 together with it", 330, f.burden(0));
        f.response(4, 5, 100);
        due("the reach 4 together with it", 1030, f.burden(0));
        f.response(0, 0, 9);
        due("the table of now", 1000, f.burden(0));
        f.pump(0, 0, 1000);
        due("pumping is no burden", 1000, f.burden(0));
        f.trade(0, 2, 10);
        due("the licences of now", 900, f.burden(0));
    }

    private void burdenOfEachWatch() {
        WellField f = Fields.wells(0);
        for (int watch = 0; watch <= 3; watch++) {
            f.watch(10 * watch, 0);
            f.response(watch, 3 * watch, watch + 1);
        }
        for (int watch = 0; watch <= 3; watch++) {
            due("burden of " + watch, 1000 * (watch + 1), f.burden(watch));
        }
        noSuchWatch("burden", (g, watch) -> g.burden(watch));
    }

    private void burdenInThousandths() {
        WellField f = new WellField();
        f.watch(0, 0);
        f.watch(99, 0);
        fillTable(f, 1000);
        due("no wells", 0, f.burden(0));
        f.well(0, 0, 0);
        due("no licence", 0, f.burden(0));
        for (int well = 1; well <= 7; well++) {
            f.well(0, 0, 5000);
        }
        due("seven of the greatest new licences", 7 * 5000 * 12000, f.burden(0));
        due("a watch beyond the reach 4", 0, f.burden(1));
        WellField least = new WellField();
        least.well(0, 0, 1);
        least.watch(0, 0);
        least.response(0, 11, 1);
        due("one thousandth", 1, least.burden(0));
        due("by a licence of 20000", 22500 * 12000, grown().burden(0));
    }

    /** Wells with the licences 0, 20000 and 2500, by trades that were made ahead of the watch and its table. */
    private static WellField grown() {
        WellField f = new WellField();
        for (int well = 0; well <= 2; well++) {
            f.well(0, 0, 5000);
        }
        f.ratio(0, 0, 200);
        f.trade(0, 1, 5000);
        f.trade(2, 1, 2500);
        f.watch(0, 0);
        fillTable(f, 1000);
        return f;
    }

    private void burdenOfNoWatch() {
        noIndex("watch -1", Fields::full, f -> f.burden(-1));
        noIndex("watch 4", Fields::full, f -> f.burden(4));
        noIndex("watch 2 of two", Fields::part, f -> f.burden(2));
        noIndex("watch 0 of none", Fields::empty, f -> f.burden(0));
    }
}
