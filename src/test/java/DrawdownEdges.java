/** The promises 11 to 14: drawdown, and where it is beyond a limit. */
final class DrawdownEdges extends Edges {
    DrawdownEdges(Sentences sentences) {
        super(sentences);
    }

    @Override
    void all() {
        drawdown();
        drawdownByPulses();
        worstMonth();
        over();
    }

    private void drawdown() {
        section("Promise 11: drawdown");
        holds("Returns the drawdown of a watch in a month.", this::drawdownInAMonth);
        holds("`watch`: the watch", () -> eachWatch("drawdown", WellField::drawdown));
        holds("`month`: 0 to 35", () -> eachMonth("drawdown", WellField::drawdown));
        holds("Returns the drawdown, in thousandths.", () -> leastAndGreatest(WellField::drawdown));
        holds("Throws `IndexOutOfBoundsException` if there is no such watch or month",
                () -> noSuchWatchOrMonth(WellField::drawdown));
    }

    private void drawdownByPulses() {
        section("Promise 12: drawdownByPulses");
        holds("Returns the same, by laying what each month of pumping lowers on a row of months, one after the other.",
                this::theSame);
        holds("`watch`: the watch", () -> eachWatch("drawdownByPulses", WellField::drawdownByPulses));
        holds("`month`: 0 to 35", () -> eachMonth("drawdownByPulses", WellField::drawdownByPulses));
        holds("Returns the drawdown, in thousandths.", () -> leastAndGreatest(WellField::drawdownByPulses));
        holds("Throws `IndexOutOfBoundsException` if there is no such watch or month",
                () -> noSuchWatchOrMonth(WellField::drawdownByPulses));
    }

    private void worstMonth() {
        section("Promise 13: worstMonth");
        holds("Returns the month in which the drawdown of a watch is greatest", this::greatestMonth);
        holds("of several the first one", this::firstOfSeveralMonths);
        holds("`watch`: the watch", this::worstMonthOfEachWatch);
        holds("Returns the month.", this::eachMonthCanBeWorst);
        holds("Throws `IndexOutOfBoundsException` if there is no such watch", this::worstMonthOfNoWatch);
    }

    private void over() {
        section("Promise 14: over");
        holds("Returns how many months a watch is over its limit.", this::monthsOverTheLimit);
        holds("`watch`: the watch", this::overOfEachWatch);
        holds("Returns the months.", this::noneToAllMonths);
        holds("Throws `IndexOutOfBoundsException` if there is no such watch", this::overOfNoWatch);
    }

    // ---- Promises 11 and 12 alike

    /** The document has two calls that answer the drawdown; both are held to the same edges. */
    private interface Drawdown {
        long of(WellField field, int watch, int month);
    }

    private void eachWatch(String call, Drawdown asked) {
        WellField f = Fields.wells(0);
        for (int watch = 0; watch <= 3; watch++) {
            f.watch(10 * watch, 0);
            f.response(watch, 0, watch + 1);
        }
        f.pump(0, 0, 10);
        for (int watch = 3; watch >= 0; watch--) {
            due(call + " of " + watch, 10 * watch + 10, asked.of(f, watch, 0));
        }
        noSuchWatch(call, (g, watch) -> asked.of(g, watch, 0));
    }

    private void eachMonth(String call, Drawdown asked) {
        WellField f = Fields.wells(0);
        f.watch(0, 0);
        f.response(0, 0, 2);
        for (int month = 0; month <= 35; month++) {
            f.pump(0, month, month);
        }
        for (int month = 0; month <= 35; month++) {
            due(call + " in " + month, 2 * month, asked.of(f, 0, month));
        }
        noSuchMonth(call, (g, month) -> asked.of(g, 0, month));
    }

    private void leastAndGreatest(Drawdown asked) {
        WellField none = new WellField();
        none.watch(0, 0);
        fillTable(none, 1000);
        due("no wells", 0, asked.of(none, 0, 35));
        WellField f = greatest();
        due("the first month", 8000000, asked.of(f, 0, 0));
        due("the month 10", 88000000, asked.of(f, 0, 10));
        due("the greatest drawdown", 96000000, asked.of(f, 0, 11));
        due("the greatest drawdown in the last month", 96000000, asked.of(f, 0, 35));
        due("a watch beyond the reach 4", 0, asked.of(f, 1, 35));
        due("the first month, asked again", 8000000, asked.of(f, 0, 0));
        WellField least = Fields.wells(0);
        least.watch(0, 0);
        least.response(0, 0, 1);
        least.pump(0, 0, 1);
        due("one thousandth", 1, asked.of(least, 0, 0));
    }

    private void noSuchWatchOrMonth(Drawdown asked) {
        noIndex("watch -1", Fields::full, f -> asked.of(f, -1, 0));
        noIndex("watch 4", Fields::full, f -> asked.of(f, 4, 35));
        noIndex("watch 0 of none", Fields::empty, f -> asked.of(f, 0, 0));
        noIndex("month -1", Fields::full, f -> asked.of(f, 0, -1));
        noIndex("month 36", Fields::full, f -> asked.of(f, 3, 36));
        noIndex("neither", Fields::part, f -> asked.of(f, 2, 36));
    }

    /** Eight wells within the reach 0 that pump all they can, by a table of the greatest numbers. */
    private static WellField greatest() {
        WellField f = Fields.wells(0, 1, 2, 3, 4, 5, 6, 7);
        f.watch(8, 10000);
        f.watch(58, 10000);
        for (int delay = 0; delay <= 11; delay++) {
            f.response(0, delay, 1000);
        }
        for (int well = 0; well <= 7; well++) {
            pumpAllMonths(f, well, 1000);
        }
        return f;
    }

    // ---- Promise 11

    private void drawdownInAMonth() {
        WellField f = Fields.wells(49, 50);
        f.watch(0, 0);
        f.response(4, 0, 2);
        f.response(4, 11, 5);
        f.pump(1, 0, 1000);
        due("beyond the reach 4", 0, f.drawdown(0, 0));
        f.pump(0, 0, 100);
        due("the delay 0", 200, f.drawdown(0, 0));
        due("no number of the delay 1", 0, f.drawdown(0, 1));
        due("the delay 11", 500, f.drawdown(0, 11));
        due("behind the delay 11", 0, f.drawdown(0, 12));
        f.pump(0, 11, 7);
        due("two months of pumping", 500 + 14, f.drawdown(0, 11));
        f.pump(0, 24, 1);
        due("the delay 11 in the last month", 5, f.drawdown(0, 35));
        f.pump(0, 35, 1);
        due("the delay 0 in the last month", 7, f.drawdown(0, 35));
        due("asked, not changed", 7, f.drawdown(0, 35));
    }

    // ---- Promise 12

    private void theSame() {
        WellField f = Fields.full();
        for (int watch = 0; watch <= 3; watch++) {
            for (int month = 0; month <= 35; month++) {
                String of = "of " + watch + " in " + month;
                due(of, f.drawdown(watch, month), f.drawdownByPulses(watch, month));
            }
        }
        WellField g = Fields.wells(0);
        g.watch(0, 0);
        g.response(0, 0, 3);
        g.response(0, 11, 4);
        g.pump(0, 24, 10);
        due("the delay 0", 30, g.drawdownByPulses(0, 24));
        due("the same, asked again", 30, g.drawdownByPulses(0, 24));
        due("the delay 11 in the last month", 40, g.drawdownByPulses(0, 35));
        g.pump(0, 25, 10);
        due("the delay 11 behind the last month", 40, g.drawdownByPulses(0, 35));
        due("nor is it in the first one", 0, g.drawdownByPulses(0, 0));
        g.pump(0, 35, 2);
        due("the last month of pumping", 46, g.drawdownByPulses(0, 35));
        g.rest(0, 0, 36);
        due("rested", 0, g.drawdownByPulses(0, 35));
    }

    // ---- Promise 13

    private void greatestMonth() {
        WellField f = Fields.wells(0, 0);
        f.watch(0, 10000);
        f.response(0, 0, 10);
        f.response(0, 2, 11);
        f.pump(0, 4, 10);
        due("the delay that lowers most", 6, f.worstMonth(0));
        f.pump(0, 20, 12);
        due("more pumped later on", 22, f.worstMonth(0));
        f.pump(1, 1, 12);
        f.pump(1, 3, 12);
        due("two months of pumping together", 3, f.worstMonth(0));
        f.pump(0, 35, 50);
        due("the last month", 35, f.worstMonth(0));
        f.pump(0, 0, 51);
        due("the first months", 2, f.worstMonth(0));
        f.response(0, 2, 0);
        due("the first month", 0, f.worstMonth(0));
    }

    private void firstOfSeveralMonths() {
        WellField f = Fields.wells(0);
        f.watch(0, 0);
        due("all at 0", 0, f.worstMonth(0));
        f.response(0, 0, 1);
        f.pump(0, 35, 5);
        due("the only one", 35, f.worstMonth(0));
        f.pump(0, 34, 5);
        due("the last two", 34, f.worstMonth(0));
        f.pump(0, 17, 5);
        due("three", 17, f.worstMonth(0));
        f.pump(0, 18, 6);
        due("a greater one", 18, f.worstMonth(0));
        f.pump(0, 1, 6);
        due("two greater ones", 1, f.worstMonth(0));
        pumpAllMonths(f, 0, 6);
        due("all alike", 0, f.worstMonth(0));
    }

    private void worstMonthOfEachWatch() {
        WellField f = Fields.wells(0, 99);
        for (int watch = 0; watch <= 3; watch++) {
            f.watch(10 * watch, 0);
            f.response(watch, 2 * watch + 1, 1);
        }
        f.pump(0, 20, 1);
        f.pump(1, 0, 1000);
        for (int watch = 0; watch <= 3; watch++) {
            due("worstMonth of " + watch, 21 + 2 * watch, f.worstMonth(watch));
        }
        noSuchWatch("worstMonth", (g, watch) -> g.worstMonth(watch));
    }

    private void eachMonthCanBeWorst() {
        WellField none = new WellField();
        none.watch(0, 0);
        due("no wells", 0, none.worstMonth(0));
        WellField f = Fields.wells(0);
        f.watch(0, 0);
        f.response(0, 0, 1);
        for (int month = 0; month <= 35; month++) {
            f.pump(0, month, month + 1);
            due("the greatest so far", month, f.worstMonth(0));
        }
    }

    private void worstMonthOfNoWatch() {
        noIndex("watch -1", Fields::full, f -> f.worstMonth(-1));
        noIndex("watch 4", Fields::full, f -> f.worstMonth(4));
        noIndex("watch 2 of two", Fields::part, f -> f.worstMonth(2));
        noIndex("watch 0 of none", Fields::empty, f -> f.worstMonth(0));
    }

    // ---- Promise 14

    private void monthsOverTheLimit() {
        WellField f = Fields.wells(0, 10);
        f.watch(0, 3);
        f.response(0, 0, 1000);
        f.response(1, 0, 1);
        f.pump(0, 0, 3);
        f.pump(0, 20, 3);
        f.pump(0, 35, 3);
        due("just at the limit", 0, f.over(0));
        f.pump(1, 0, 1);
        due("by one thousandth in the first month", 1, f.over(0));
        f.pump(1, 35, 1);
        due("in the last month too", 2, f.over(0));
        f.pump(0, 19, 4);
        f.pump(0, 21, 1000);
        due("months that stand apart", 4, f.over(0));
        f.pump(0, 0, 2);
        due("no more in the first month", 3, f.over(0));
    }

    private void overOfEachWatch() {
        WellField f = Fields.wells(0);
        int[] limits = {0, 1, 2, 3};
        for (int watch = 0; watch <= 3; watch++) {
            f.watch(0, limits[watch]);
        }
        f.response(0, 0, 1000);
        f.pump(0, 0, 1);
        f.pump(0, 1, 2);
        f.pump(0, 2, 3);
        f.pump(0, 3, 4);
        for (int watch = 0; watch <= 3; watch++) {
            due("over of " + watch, 4 - watch, f.over(watch));
        }
        noSuchWatch("over", (g, watch) -> g.over(watch));
    }

    private void noneToAllMonths() {
        WellField f = new WellField();
        f.watch(0, 0);
        due("no wells", 0, f.over(0));
        f.well(0, 0, 0);
        f.response(0, 0, 1);
        due("nothing pumped", 0, f.over(0));
        for (int month = 0; month <= 35; month++) {
            f.pump(0, month, 1);
            due("over a limit of 0", month + 1, f.over(0));
        }
        WellField g = greatest();
        due("over a limit of 10000 by the greatest drawdown", 35, g.over(0));
    }

    private void overOfNoWatch() {
        noIndex("watch -1", Fields::full, f -> f.over(-1));
        noIndex("watch 4", Fields::full, f -> f.over(4));
        noIndex("watch 2 of two", Fields::part, f -> f.over(2));
        noIndex("watch 0 of none", Fields::empty, f -> f.over(0));
    }
}
