/** Promises 17 to 21 and 27: what comes, the plan, the hours going by, and what is counted. */
public final class DayTest {
    private static final int NONE = MirrorTower.NONE;
    private static final Due due = new Due("DayTest");

    public static void main(String[] args) {
        comes();
        units();
        fullStore();
        steps();
        wholeDay();
        plans();
        evenPlans();
        warmPlans();
        keptPlan();
        counts();
        due.end();
    }

    /** Mirrors with 100 each in the hours given, and no dust: as many units an hour as mirrors. */
    private static MirrorTower plant(int mirrors, int... hours) {
        MirrorTower x = new MirrorTower();
        for (int i = 0; i < mirrors; i++) {
            x.mirror(2 * (i % 7), 14 - 2 * (i / 7));
        }
        for (int cell = 0; cell < 4; cell++) {
            x.limit(cell, 10000);
        }
        for (int hour : hours) {
            x.sun(hour, 1, 0, 9);
        }
        x.dust(0);
        return x;
    }

    private static void waitFor(MirrorTower x, int hours) {
        for (int i = 0; i < hours; i++) {
            x.step(false);
        }
    }

    private static void comes() {
        MirrorTower x = plant(2, 0, 1, 5, 23);
        x.dust(7);
        due.is("comes(0), now", x.comes(0), 200);
        due.is("comes(1), soil as it grows", x.comes(1), 186);
        due.is("comes(5)", x.comes(5), 130);
        due.is("comes(6) without sun", x.comes(6), 0);
        due.is("comes(23), soil to 90 at most", x.comes(23), 20);
        due.is("soil(0) stays", x.soil(0), 0);
        waitFor(x, 2);
        due.is("comes(1), gone by", x.comes(1), NONE);
        due.is("comes(2), now", x.comes(2), 0);
        due.is("comes(5), from soil as it is", x.comes(5), 130);
        x.wind(6, 51);
        due.is("comes(5), stowed ahead of wind", x.comes(5), 0);
        due.is("comes(24)", x.comes(24), NONE);
        due.is("comes(-1)", x.comes(-1), NONE);
        x.wind(6, 0);
        x.limit(0, 0);
        x.limit(1, 0);
        x.limit(2, 0);
        x.limit(3, 70);
        due.is("comes(5), by aims", x.comes(5), 65);
        due.is("comes(5) behind a wash", comesWashed(x), 0);
    }

    private static int comesWashed(MirrorTower x) {
        x.wash(40);
        return x.comes(5);
    }

    private static void units() {
        MirrorTower x = plant(2, 0, 1, 2);
        x.dust(1);
        waitFor(x, 1);
        due.is("count(2), two whole units", x.count(2), 2);
        waitFor(x, 1);
        due.is("count(2), the rest of 198 is lost", x.count(2), 3);
        waitFor(x, 1);
        due.is("count(2), the rest of 196 is lost", x.count(2), 4);
    }

    private static void fullStore() {
        MirrorTower x = plant(40, 0, 1, 2, 3, 4, 5, 6);
        due.is("comes(0) of forty", x.comes(0), fortyAt(x));
        for (int hour = 0; hour < 7; hour++) {
            int before = x.count(2);
            int more = x.comes(hour) / 100;
            x.step(false);
            due.is("count(2) fills", x.count(2), Math.min(200, before + more));
        }
        MirrorTower full = plant(30, 0, 1, 2, 3, 4, 5, 6, 7, 8, 9, 10, 11, 12, 13, 14, 15, 16,
                17, 18, 19, 20, 21, 22, 23);
        waitFor(full, 22);
        due.is("count(2), above 200 is lost", full.count(2), 200);
        due.is("step(true) of a full store", full.step(true), 50);
        due.is("count(2): what is above is lost ahead of the run", full.count(2), 193);
        due.is("plan() at the last hour", full.plan(), 50);
        full.step(false);
        full.step(false);
        due.is("count(2), full again", full.count(2), 200);
        full.step(false);
        due.is("count(2), no more than full", full.count(2), 200);
        due.is("plan() of a full store", full.plan(), 22 * 50);
        bits("of a full store", full, 2, 0xFFFFFC);
    }

    private static int fortyAt(MirrorTower x) {
        int sum = 0;
        for (int i = 0; i < 40; i++) {
            sum += Math.max(0, x.power(i, 0));
        }
        return sum;
    }

    private static void steps() {
        MirrorTower x = plant(7, 0);
        x.price(0, 999);
        x.price(1, 3);
        due.is(x, "step(true) with 7 that came in this hour", x.step(true), 4995, 0);
        due.is("count(2)", x.count(2), 0);
        due.is("count(3)", x.count(3), 1);
        due.is(x, "step(true) with none", x.step(true), NONE, 2);
        due.is("count(1): nothing goes by", x.count(1), 1);
        due.is("count(3): still warm", x.count(3), 1);
        due.is("earned()", x.earned(), 4995);
        x.sun(1, 1, 0, 9);
        due.is(x, "step(true), warm", x.step(true), 15, 0);
        due.is("count(2): 5 taken of 7", x.count(2), 2);
        due.is("earned()", x.earned(), 5010);
        due.is(x, "step(false)", x.step(false), 0, 0);
        due.is("count(3): not warm", x.count(3), 0);
        MirrorTower y = plant(6, 0, 1);
        y.dust(4);
        due.is(y, "step(true), not warm, 6 units", y.step(true), NONE, 2);
        due.is("soil(0): nothing goes by", y.soil(0), 0);
        due.is("count(2): nothing comes in", y.count(2), 0);
        due.is("count(1)", y.count(1), 0);
        due.is(y, "step(false)", y.step(false), 0, 0);
        due.is("soil(0)", y.soil(0), 4);
        due.is("count(2)", y.count(2), 6);
        due.is(y, "step(true) at the first price", y.step(true), 50, 0);
        due.is("count(2): 6 and 5, less 7", y.count(2), 4);
        MirrorTower z = plant(5, 0);
        z.step(false);
        due.is(z, "step(true), not warm, 5 units", z.step(true), NONE, 2);
    }

    private static void wholeDay() {
        MirrorTower x = plant(7, 22, 23);
        waitFor(x, 23);
        due.is("count(1)", x.count(1), 23);
        due.is("step(true) in hour 23", x.step(true), 50);
        due.is("count(1) behind hour 23", x.count(1), 0);
        due.is("count(2) stays", x.count(2), 7);
        due.is("count(3) stays", x.count(3), 1);
        due.is("comes(22) of the new day", x.comes(22), 700);
        due.is("step(true), warm over night", x.step(true), 50);
        due.is("count(2)", x.count(2), 2);
        MirrorTower y = plant(1);
        y.dust(2);
        waitFor(y, 30);
        due.is("soil(0) stays and grows", y.soil(0), 60);
        due.is("count(1)", y.count(1), 6);
    }

    private static void bits(String when, MirrorTower x, int from, int bits) {
        for (int hour = 0; hour < 24; hour++) {
            int want = hour < from ? NONE : bits >> hour & 1;
            due.is("runs(" + hour + ") " + when, x.runs(hour), want);
        }
    }

    private static void plans() {
        MirrorTower x = plant(7, 0, 1, 2, 3);
        for (int hour = 0; hour < 24; hour++) {
            due.is("runs(" + hour + ") ahead of any", x.runs(hour), NONE);
        }
        x.price(4, 30);
        x.price(5, 40);
        x.price(6, 20);
        // 28 units: two to warm up and five runs, the best five in one row.
        due.is("plan()", x.plan(), 5 * (30 + 40 + 20 + 10 + 10));
        bits("of five in a row", x, 0, 0b111110000);
        due.is("runs(24)", x.runs(24), NONE);
        due.is("runs(-1)", x.runs(-1), NONE);
        x.price(12, 500);
        x.price(13, 0);
        due.is("plan() with a better hour apart", x.plan(), 5 * (500 + 30 + 40 + 20));
        bits("apart", x, 0, 1 << 12 | 0b1110000);
        due.is("earned(): a plan earns nothing yet", x.earned(), 0);
        due.is("count(1): a plan lets no hour go by", x.count(1), 0);
        due.is("count(2)", x.count(2), 0);
    }

    private static void evenPlans() {
        MirrorTower x = plant(7, 3);
        due.is("plan() of even prices", x.plan(), 50);
        bits("as late as can be", x, 0, 1 << 23);
        x.price(23, 9);
        x.plan();
        bits("as late as can be of the best", x, 0, 1 << 22);
        for (int hour = 0; hour < 24; hour++) {
            x.price(hour, 0);
        }
        due.is("plan() at price 0", x.plan(), 0);
        bits("at price 0", x, 0, 0);
        MirrorTower y = plant(12, 0);
        due.is("plan() of two runs", y.plan(), 100);
        bits("of two runs in a row", y, 0, 0b11 << 22);
    }

    private static void warmPlans() {
        MirrorTower x = plant(12, 20);
        waitFor(x, 20);
        x.step(true);
        due.is("plan(), warm with 5 units", x.plan(), 50);
        bits("at once, while it is warm", x, 21, 1 << 21);
        x.step(false);
        due.is("plan(), cold with 5 units", x.plan(), 0);
        bits("not at all", x, 22, 0);
        MirrorTower y = plant(7, 23);
        waitFor(y, 23);
        due.is("plan() by what comes in the last hour", y.plan(), 50);
        bits("in the last hour", y, 23, 1 << 23);
    }

    private static void keptPlan() {
        MirrorTower x = plant(7, 20);
        waitFor(x, 20);
        due.is("plan()", x.plan(), 50);
        x.price(21, 900);
        waitFor(x, 2);
        bits("by the latest plan, hours gone by too", x, 20, 1 << 23);
        waitFor(x, 2);
        bits("by the plan of the day ahead", x, 20, 1 << 23);
        x.wash(0);
        x.plan();
        due.is("trouble() behind plan(), which can't be refused", x.trouble(), 2);
        // 7 units of the day ahead and 7 more: a run at the best price and one as late as can be.
        bits("by the new plan", x, 0, 1 << 21 | 1 << 23);
    }

    private static void counts() {
        MirrorTower x = plant(3, 0);
        x.dust(5);
        x.step(false);
        x.shot(1, 0, 1);
        int[] want = {3, 1, 3, 0, 1, 15};
        for (int what = 0; what < 6; what++) {
            due.is("count(" + what + ")", x.count(what), want[what]);
        }
        due.is("count(6)", x.count(6), NONE);
        due.is("count(-1)", x.count(-1), NONE);
        due.is("count(least)", x.count(Integer.MIN_VALUE), NONE);
    }
}
