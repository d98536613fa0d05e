/** The sentences under 'What it is': what the parts of the class do together. */
final class WholeEdges extends Edges {
    WholeEdges(Sentences sentences) {
        super(sentences);
    }

    @Override
    void all() {
        section("What it is");
        tellsNoAnswer("A desk for groundwater licences:");
        holds("wells pump by months", this::pumpByMonths);
        holds("what they pump lowers the water at watched places for a year by a told response table",
                this::loweredForAYear);
        holds("and takes water from a stream later on", this::takenLaterOn);
        holds("limits at the watched places tell how much more can be pumped", this::limitsTell);
        holds("wells are rested", this::rested);
        holds("and licences are traded between zones as long as no watched place can be worse off",
                this::tradedBetweenZones);
        holds("An object is used for at most 512 calls after it has been made; what later calls answer is free.",
                this::lastCall);
    }

    private void pumpByMonths() {
        WellField f = Fields.wells(0, 0);
        f.pump(0, 0, 5);
        f.pump(0, 1, 7);
        f.pump(1, 1, 11);
        due("the month 0 by itself", 5, f.pump(0, 0, 5));
        due("the month 1 by itself", 7, f.pump(0, 1, 7));
        due("another well by itself", 11, f.pump(1, 1, 11));
        due("a month without pumping", 0, f.pump(1, 0, 0));
    }

    private void loweredForAYear() {
        WellField f = Fields.wells(40);
        f.watch(40, 0);
        f.watch(95, 0);
        fillTable(f, 3);
        f.pump(0, 5, 100);
        int months = 0;
        for (int month = 0; month <= 35; month++) {
            due("in the month " + month, month >= 5 && month <= 16 ? 300 : 0, f.drawdown(0, month));
            due("far away in the month " + month, 0, f.drawdown(1, month));
            months += f.drawdown(0, month) > 0 ? 1 : 0;
        }
        due("the months of a year", 12, months);
        f.response(0, 2, 8);
        due("by the table as it is told", 800, f.drawdown(0, 7));
    }

    private void takenLaterOn() {
        WellField f = Fields.wells(60);
        f.pump(0, 3, 40);
        due("not in the year of pumping", 0, f.taken(0));
        due("a year later", 40, f.taken(1));
        due("by what was pumped earlier", 40, f.takenLate(0, 1));
        due("once alone", 0, f.taken(2));
    }

    private void limitsTell() {
        for (int limit : new int[] {0, 1, 10, 50}) {
            WellField f = Fields.wells(0);
            f.watch(0, limit);
            f.response(0, 0, 100);
            int more = f.headroom(0, 0);
            due("how much more, by the limit " + limit, 10 * limit, more);
            f.pump(0, 0, more);
            due("pumped so", 0, f.over(0));
            f.pump(0, 0, more + 1);
            due("one more", 1, f.over(0));
        }
    }

    private void rested() {
        WellField f = Fields.wells(0);
        f.watch(0, 1);
        f.response(0, 0, 1000);
        f.pump(0, 0, 2);
        f.pump(0, 1, 2);
        due("over the limit", 2, f.over(0));
        due("rested", 2, f.rest(0, 0, 1));
        due("over it no more in that month", 1, f.over(0));
        due("nothing is taken by that month", 2, f.taken(0));
    }

    private void tradedBetweenZones() {
        int[] ratios = {0, 40, 60, 67, 100, 200};
        for (int ratio : ratios) {
            for (int units = 1; units <= 12; units++) {
                WellField f = twoZones(ratio);
                long before = f.burden(0);
                long beforeFar = f.burden(1);
                long giver = 2L * units;
                long getter = 3L * (units * ratio / 100);
                String of = units + " units by the ratio " + ratio;
                due(of + " can be traded", getter <= giver ? 1 : 0, canTrade(f, units) ? 1 : 0);
                due(of + ", one watch", getter <= giver ? before - giver + getter : before, f.burden(0));
                due(of + ", a watch of neither well", beforeFar, f.burden(1));
            }
        }
    }

    /** The watch 0 is lowered by 2 for each unit of the well 0, of the zone 0, by 3 for one of the well 1, of 2. */
    private static WellField twoZones(int ratio) {
        WellField f = new WellField();
        f.well(0, 0, 100);
        f.well(10, 2, 100);
        f.watch(0, 0);
        f.watch(99, 0);
        f.response(0, 0, 2);
        f.response(1, 11, 3);
        f.ratio(0, 2, ratio);
        return f;
    }

    private static boolean canTrade(WellField f, int units) {
        try {
            f.trade(0, 1, units);
            return true;
        } catch (IllegalStateException e) {
            return false;
        }
    }

    private void lastCall() {
        WellField f = Fields.wells(0);
        for (int call = 2; call <= 510; call++) {
            f.pump(0, call % 36, 7);
        }
        due("the 511th call", 7, f.pump(0, 0, 8));
        due("the 512th call", 11 * 7 + 8, f.pumped(0, 0));
    }
}
