/** Term IV and promises 17 to 21: wind, what comes, the store, the plan, and hours going by. */
final class BoundsOfTheDay {
    private static final int NONE = MirrorTower.NONE;
    private static final int LEAST = Integer.MIN_VALUE;
    private static final int MOST = Integer.MAX_VALUE;

    private BoundsOfTheDay() { }

    static void all(Sentences doc) {
        wind(doc);
        day(doc);
        comesAndPlan(doc);
        steps(doc);
    }

    private static void wind(Sentences doc) {
        doc.test("IV", "WIND of an HOUR (0 .. 99", BoundsOfTheDay::windRange);
        doc.test("IV", "0 at first", BoundsOfTheDay::calmAtFirst);
        doc.test("IV", "all are STOWED in HOURS with a WIND above 50", BoundsOfTheDay::aboveFifty);
        doc.test("IV", "and in the HOUR right ahead of such a one", BoundsOfTheDay::rightAhead);
        doc.test("IV", "HOUR 23 has none behind it", BoundsOfTheDay::noneBehindTheLast);
    }

    private static void day(Sentences doc) {
        doc.test("IV", "A DAY, from an HOUR on to the end", BoundsOfTheDay::toTheEnd);
        doc.test("IV", "each HOUR its HEAT by AIMS", BoundsOfTheDay::heatByAims);
        doc.test("IV", "SOIL as it grows; no washing", BoundsOfTheDay::soilGrowsOn);
        doc.test("IV", "comes into the STORE (0 .. 200 units of 100", BoundsOfTheDay::unitsOfHundred);
        doc.test("IV", "what doesn't make a whole unit is lost", BoundsOfTheDay::restIsLost);
        doc.test("IV", "above 200 is lost", BoundsOfTheDay::aboveIsLost);
        doc.test("IV", "the turbine may run in an HOUR if it takes 5 units",
                BoundsOfTheDay::takesFive);
        doc.test("IV", "those that came in this HOUR, too", BoundsOfTheDay::unitsOfThisHour);
        doc.test("IV", "it sells them at the HOUR's PRICE each", BoundsOfTheDay::sellsFive);
        doc.test("IV", "(0 .. 999", BoundsOfTheDay::priceRange);
        doc.test("IV", "10 at first", BoundsOfTheDay::firstPrice);
        doc.test("IV", "if it didn't run the HOUR ahead", BoundsOfTheDay::coldTakesSeven);
        doc.test("IV", "(or it is the first one and it isn't warm)", BoundsOfTheDay::coldAtFirst);
        doc.test("IV", "it takes 2 units more", BoundsOfTheDay::twoMore);
        doc.test("IV", "PLAN: the most that can be earned", BoundsOfTheDay::mostEarned);
        doc.test("IV", "of as good plans the one that doesn't run in the earlier HOUR where they "
                + "first differ", BoundsOfTheDay::laterOfAsGood);
    }

    private static void comesAndPlan(Sentences doc) {
        doc.test("17", "HEAT of each HOUR to come (from NOW on", BoundsOfTheDay::comesFromNow);
        doc.test("17", "SOIL as it grows): of an HOUR", BoundsOfTheDay::comesAsSoilGrows);
        doc.test("17", "NONE for one that isn't", BoundsOfTheDay::comesNone);
        doc.test("18", "PLAN from NOW on", BoundsOfTheDay::planFromNow);
        doc.test("18", "the STORE and the turbine being as they are", BoundsOfTheDay::planAsTheyAre);
        doc.test("18", "what is earned", BoundsOfTheDay::planTells);
        doc.test("19", "Whether the turbine runs in an HOUR by the latest plan(): 1, 0",
                BoundsOfTheDay::latestPlan);
        doc.test("19", "NONE", BoundsOfTheDay::runsNone);
    }

    private static void steps(Sentences doc) {
        doc.test("20", "The HOUR goes by, the turbine running or not: what is earned",
                BoundsOfTheDay::stepTells);
        doc.test("20", "then SOIL grows", BoundsOfTheDay::thenSoilGrows);
        doc.test("20", "NONE: 2 (it can't run: too few units", BoundsOfTheDay::tooFewUnits);
        doc.test("20", "nothing goes by)", BoundsOfTheDay::nothingGoesBy);
        doc.test("20", "(Behind HOUR 23 comes HOUR 0", BoundsOfTheDay::behindTheLast);
        doc.test("20", "STORE, SOIL and the turbine stay.)", BoundsOfTheDay::theyStay);
        doc.test("21", "What was earned in all", BoundsOfTheDay::earnedInAll);
    }

    private static void runs(Due due, MirrorTower x, int from, int bits) {
        for (int hour = 0; hour < 24; hour++) {
            int want = hour < from ? NONE : bits >> hour & 1;
            due.is("runs(" + hour + ")", x.runs(hour), want);
        }
    }

    private static void windRange(Due due) {
        MirrorTower x = new MirrorTower();
        for (int v = 0; v <= 99; v++) {
            due.is(x, "wind(8, " + v + ")", x.wind(8, v), true, 0);
        }
        for (int v : new int[] {-1, 100, LEAST, MOST}) {
            x.dust(1);
            due.is(x, "wind(8, " + v + ")", x.wind(8, v), false, 2);
        }
    }

    private static void calmAtFirst(Due due) {
        MirrorTower x = new MirrorTower();
        for (int hour = 0; hour < 24; hour++) {
            due.is("stowed(" + hour + ")", x.stowed(hour), 0);
        }
    }

    private static void aboveFifty(Due due) {
        for (int hour = 0; hour < 24; hour++) {
            MirrorTower x = new MirrorTower();
            x.wind(hour, 50);
            due.is("stowed(" + hour + ") at 50", x.stowed(hour), 0);
            x.wind(hour, 51);
            due.is("stowed(" + hour + ") at 51", x.stowed(hour), 1);
            x.wind(hour, 99);
            due.is("stowed(" + hour + ") at 99", x.stowed(hour), 1);
        }
        MirrorTower all = Fields.plant(40, 8);
        all.wind(8, 51);
        due.is("aim(8): all are stowed", all.aim(8), 0);
        due.is("best(8): all are stowed", all.best(8), 0);
    }

    private static void rightAhead(Due due) {
        MirrorTower x = new MirrorTower();
        x.wind(8, 51);
        int[] want = {0, 1, 1, 0};
        for (int i = 0; i < 4; i++) {
            due.is("stowed(" + (6 + i) + ")", x.stowed(6 + i), want[i]);
        }
        x.wind(8, 50);
        due.is("stowed(7) ahead of 50", x.stowed(7), 0);
        x.wind(23, 51);
        due.is("stowed(22)", x.stowed(22), 1);
        due.is("stowed(21)", x.stowed(21), 0);
        x.wind(1, 51);
        due.is("stowed(0)", x.stowed(0), 1);
    }

    private static void noneBehindTheLast(Due due) {
        MirrorTower x = Fields.plant(1, 23);
        x.wind(0, 99);
        due.is("stowed(0)", x.stowed(0), 1);
        due.is("stowed(23)", x.stowed(23), 0);
        due.is("power(0, 23)", x.power(0, 23), 100);
        Fields.waitFor(x, 23);
        due.is("stowed(23) when it is now", x.stowed(23), 0);
        due.is("comes(23)", x.comes(23), 100);
    }

    private static void toTheEnd(Due due) {
        MirrorTower x = Fields.plant(7, 0, 23);
        due.is("plan() over both hours with heat", x.plan(), 100);
        runs(due, x, 0, 1 << 22 | 1 << 23);
        Fields.waitFor(x, 23);
        due.is("plan() of the last hour alone: one run of 14 units", x.plan(), 50);
        runs(due, x, 23, 1 << 23);
        MirrorTower y = Fields.plant(7, 0);
        y.step(false);
        y.price(0, 999);
        due.is("plan(): hour 0 of the next day isn't of it", y.plan(), 50);
        runs(due, y, 1, 1 << 23);
    }

    private static void heatByAims(Due due) {
        MirrorTower x = Fields.bright(8, 0, 1);
        Fields.limits(x, 350, 0, 0, 250);
        due.is("comes(0): three and two aim", x.comes(0), 500);
        due.is("aim(0)", x.aim(0), 500);
        x.step(false);
        due.is("count(2)", x.count(2), 5);
        x.limit(0, 0);
        x.step(false);
        due.is("count(2)", x.count(2), 7);
    }

    private static void soilGrowsOn(Due due) {
        MirrorTower clean = Fields.plant(7, 5);
        due.is("plan() without dust: 7 units in hour 5", clean.plan(), 50);
        MirrorTower dusty = Fields.plant(7, 5);
        dusty.dust(1);
        due.is("plan() with dust: 6 units in hour 5", dusty.plan(), 0);
        MirrorTower x = Fields.plant(10, 0, 1, 2, 23);
        x.dust(10);
        int[] held = {10, 19, 27};
        for (int units : held) {
            x.step(false);
            due.is("count(2)", x.count(2), units);
        }
        due.is("comes(23), to 90 at most", x.comes(23), 100);
        // 28 units in all: 7 of them for the first run, 5 for each of four more.
        due.is("plan()", x.plan(), 250);
    }

    private static void unitsOfHundred(Due due) {
        MirrorTower x = Fields.plant(40, 0, 1, 2, 3, 4);
        int[] held = {40, 80, 120, 160, 200, 200};
        due.is("count(2)", x.count(2), 0);
        for (int units : held) {
            x.step(false);
            due.is("count(2)", x.count(2), units);
        }
    }

    /** Hour 1 is now, and has one mirror with so much soil and so many clean ones; no dust. */
    private static MirrorTower soiled(int soil, int clean) {
        MirrorTower x = Fields.plant(1, 1, 2);
        x.dust(soil);
        x.step(false);
        x.dust(0);
        Fields.addBright(x, 1, 1 + clean);
        return x;
    }

    private static void restIsLost(Due due) {
        int[][] soilAndClean = {{1, 0}, {0, 0}, {1, 1}, {20, 1}, {0, 1}, {1, 4}};
        int[] heats = {99, 100, 199, 180, 200, 499};
        int[] units = {0, 1, 1, 1, 2, 4};
        for (int i = 0; i < heats.length; i++) {
            MirrorTower x = soiled(soilAndClean[i][0], soilAndClean[i][1]);
            due.is("comes(1)", x.comes(1), heats[i]);
            x.step(false);
            due.is("count(2) by a heat of " + heats[i], x.count(2), units[i]);
            x.step(false);
            due.is("count(2): the rests of two hours make none", x.count(2), 2 * units[i]);
        }
        due.is("plan() by 3 units and a rest, twice", soiled(1, 3).plan(), 0);
        due.is("plan() by 4 units, twice", soiled(0, 3).plan(), 50);
    }

    private static void aboveIsLost(Due due) {
        MirrorTower x = Fields.plant(40, 0, 1, 2, 3, 4, 5, 6, 7);
        Fields.waitFor(x, 5);
        due.is("count(2), just full", x.count(2), 200);
        x.step(false);
        due.is("count(2), 40 are lost", x.count(2), 200);
        due.is("step(true)", x.step(true), 50);
        due.is("count(2): what is above is lost ahead of the run", x.count(2), 193);
        due.is("step(true)", x.step(true), 50);
        due.is("count(2): full again, less 5", x.count(2), 195);
        MirrorTower y = Fields.plant(39, 0, 1, 2, 3, 4, 5);
        Fields.waitFor(y, 5);
        due.is("count(2)", y.count(2), 195);
        y.step(false);
        due.is("count(2), 34 of 39 are lost", y.count(2), 200);
        plansOfAFullStore(due);
    }

    /** 200 units make 39 runs in a row, but a day has 24 hours; what is lost can't be sold. */
    private static void plansOfAFullStore(Due due) {
        MirrorTower x = Fields.plant(40, 0, 1, 2, 3, 4, 23);
        Fields.waitFor(x, 23);
        due.is("plan() of the last hour", x.plan(), 50);
        x.step(false);
        due.is("count(2)", x.count(2), 200);
        due.is("plan() of a full store", x.plan(), 24 * 50);
        runs(due, x, 0, 0xFFFFFF);
    }

    private static void takesFive(Due due) {
        MirrorTower five = Fields.plant(12, 0);
        five.step(true);
        due.is("count(2)", five.count(2), 5);
        due.is(five, "step(true), warm with 5", five.step(true), 50, 0);
        due.is("count(2)", five.count(2), 0);
        MirrorTower four = Fields.plant(11, 0);
        four.step(true);
        due.is("count(2)", four.count(2), 4);
        due.is("plan(), warm with 4", four.plan(), 0);
        due.is(four, "step(true), warm with 4", four.step(true), NONE, 2);
    }

    private static void unitsOfThisHour(Due due) {
        MirrorTower x = Fields.plant(7, 3);
        x.price(3, 20);
        due.is("plan()", x.plan(), 100);
        runs(due, x, 0, 1 << 3);
        Fields.waitFor(x, 3);
        due.is("count(2)", x.count(2), 0);
        due.is(x, "step(true)", x.step(true), 100, 0);
        MirrorTower part = Fields.plant(4, 0, 1);
        part.step(false);
        due.is(part, "step(true) by 4 held and 4 that come", part.step(true), 50, 0);
        due.is("count(2)", part.count(2), 1);
    }

    private static void sellsFive(Due due) {
        MirrorTower x = Fields.plant(40, 0);
        x.price(0, 3);
        x.price(1, 7);
        due.is("step(true): 7 are taken, 5 are sold", x.step(true), 15);
        due.is("step(true): 5 are taken and sold", x.step(true), 35);
        x.price(23, 11);
        x.price(2, 999);
        due.is("step(true)", x.step(true), 4995);
    }

    private static void priceRange(Due due) {
        MirrorTower x = Fields.plant(40, 0);
        due.is(x, "price(0, -1)", x.price(0, -1), false, 2);
        due.is(x, "price(0, 0)", x.price(0, 0), true, 0);
        due.is(x, "price(1, 1000)", x.price(1, 1000), false, 2);
        due.is(x, "price(1, 999)", x.price(1, 999), true, 0);
        due.is(x, "price(1, most)", x.price(1, MOST), false, 2);
        due.is(x, "price(1, least)", x.price(1, LEAST), false, 2);
        due.is(x, "step(true) at 0", x.step(true), 0, 0);
        due.is("count(2): 7 are taken all the same", x.count(2), 33);
        due.is("count(3)", x.count(3), 1);
        due.is(x, "step(true) at 999", x.step(true), 4995, 0);
    }

    private static void firstPrice(Due due) {
        MirrorTower x = Fields.plant(7, Fields.ALL_HOURS);
        for (int hour = 0; hour < 24; hour++) {
            due.is("step(true) in hour " + hour, x.step(true), 50);
        }
        due.is("earned()", x.earned(), 24 * 50);
    }

    private static void coldTakesSeven(Due due) {
        MirrorTower seven = Fields.plant(14, 0);
        seven.step(true);
        seven.step(false);
        due.is("count(2)", seven.count(2), 7);
        due.is(seven, "step(true), cold with 7", seven.step(true), 50, 0);
        due.is("count(2)", seven.count(2), 0);
        MirrorTower six = Fields.plant(13, 0);
        six.step(true);
        due.is("plan(), warm with 6", six.plan(), 50);
        runs(due, six, 1, 1 << 1);
        six.step(false);
        due.is("count(2)", six.count(2), 6);
        due.is("plan(), cold with 6", six.plan(), 0);
        due.is(six, "step(true), cold with 6", six.step(true), NONE, 2);
    }

    private static void coldAtFirst(Due due) {
        MirrorTower six = Fields.plant(6, 0);
        due.is("plan(), new with 6", six.plan(), 0);
        due.is(six, "step(true), new with 6", six.step(true), NONE, 2);
        MirrorTower seven = Fields.plant(7, 0);
        due.is("plan(), new with 7", seven.plan(), 50);
        MirrorTower warm = Fields.plant(12, 23);
        Fields.waitFor(warm, 23);
        warm.step(true);
        due.is("count(1)", warm.count(1), 0);
        warm.sun(23, 0, 1, 0);
        due.is("plan() at hour 0, warm with 5", warm.plan(), 50);
        runs(due, warm, 0, 1);
        due.is(warm, "step(true) at hour 0, warm with 5", warm.step(true), 50, 0);
    }

    private static void twoMore(Due due) {
        MirrorTower x = Fields.plant(9, 0, 1);
        x.step(true);
        due.is("count(2): 9 less 7", x.count(2), 2);
        x.step(true);
        due.is("count(2): 2 and 9, less 5", x.count(2), 6);
    }

    private static void mostEarned(Due due) {
        MirrorTower x = Fields.plant(12, 0);
        x.price(5, 100);
        x.price(9, 100);
        due.is("plan() of 12: two runs in a row", x.plan(), 550);
        MirrorTower y = Fields.plant(14, 0);
        y.price(5, 100);
        y.price(9, 100);
        due.is("plan() of 14: two runs apart", y.plan(), 1000);
        runs(due, y, 0, 1 << 5 | 1 << 9);
        MirrorTower z = Fields.plant(7, 0, 1, 2, 3);
        z.price(4, 30);
        z.price(5, 40);
        z.price(6, 20);
        due.is("plan() of 28: five runs in a row", z.plan(), 5 * (30 + 40 + 20 + 10 + 10));
        runs(due, z, 0, 0b111110000);
        z.price(12, 500);
        due.is("plan() of 28: two runs and two more apart", z.plan(), 5 * (500 + 40 + 30 + 20));
    }

    private static void laterOfAsGood(Due due) {
        MirrorTower x = Fields.plant(7, 3);
        due.is("plan() of one run", x.plan(), 50);
        runs(due, x, 0, 1 << 23);
        x.price(23, 9);
        x.plan();
        runs(due, x, 0, 1 << 22);
        for (int hour = 0; hour < 24; hour++) {
            x.price(hour, 0);
        }
        due.is("plan() at prices of 0", x.plan(), 0);
        runs(due, x, 0, 0);
        MirrorTower pair = Fields.plant(12, 0);
        pair.price(5, 100);
        pair.price(9, 100);
        pair.plan();
        runs(due, pair, 0, 1 << 9 | 1 << 10);
        apartOrInARow(due);
    }

    /** 17 units: hour 6 may be run through or waited out for as much. */
    private static void apartOrInARow(Due due) {
        MirrorTower x = Fields.plant(17, 0);
        for (int hour = 0; hour < 24; hour++) {
            x.price(hour, hour == 5 || hour == 7 ? 100 : 0);
        }
        due.is("plan() of two dear hours around a free one", x.plan(), 1000);
        runs(due, x, 0, 1 << 5 | 1 << 7);
    }

    private static void comesFromNow(Due due) {
        MirrorTower x = Fields.plant(3, 0, 1, 2, 23);
        due.is("comes(0), now", x.comes(0), 300);
        due.is("comes(23)", x.comes(23), 300);
        x.step(false);
        due.is("comes(0), gone by", x.comes(0), NONE);
        due.is("comes(1), now", x.comes(1), 300);
        Fields.waitFor(x, 22);
        due.is("comes(22), gone by", x.comes(22), NONE);
        due.is("comes(23), now", x.comes(23), 300);
        x.step(false);
        due.is("comes(0), of a new day", x.comes(0), 300);
        due.is("comes(22)", x.comes(22), 0);
    }

    private static void comesAsSoilGrows(Due due) {
        MirrorTower x = Fields.plant(2, 0, 1, 5, 12, 13, 23);
        x.dust(7);
        due.is("comes(0)", x.comes(0), 200);
        due.is("comes(1)", x.comes(1), 186);
        due.is("comes(5)", x.comes(5), 130);
        due.is("comes(12): soil 84", x.comes(12), 32);
        due.is("comes(13): soil 90 at most", x.comes(13), 20);
        due.is("comes(23)", x.comes(23), 20);
        due.is("soil(0) stays", x.soil(0), 0);
        x.step(false);
        due.is("comes(5), an hour on", x.comes(5), 130);
        x.wash(1);
        due.is("comes(5), one washed", x.comes(5), 137);
        x.wind(6, 51);
        due.is("comes(5), stowed ahead of wind", x.comes(5), 0);
    }

    private static void comesNone(Due due) {
        MirrorTower x = Fields.plant(1, Fields.ALL_HOURS);
        Fields.waitFor(x, 5);
        for (int hour : Fields.WRONG_HOURS) {
            due.is("comes(" + hour + ")", x.comes(hour), NONE);
        }
        for (int hour = 0; hour < 24; hour++) {
            due.is("comes(" + hour + ")", x.comes(hour), hour < 5 ? NONE : 100);
        }
    }

    private static void planFromNow(Due due) {
        MirrorTower x = Fields.plant(7, 0);
        x.price(0, 999);
        due.is("plan(), the dear hour is now", x.plan(), 4995);
        x.step(false);
        due.is("plan(), the dear hour is gone by", x.plan(), 50);
        runs(due, x, 1, 1 << 23);
        Fields.waitFor(x, 23);
        due.is("plan() of a new day: 7 units held and 7 that come", x.plan(), 4995 + 50);
        runs(due, x, 0, 1 | 1 << 23);
        due.is("plan(), 9 mirrors of 80", planOfTwoHoursSoil(9), 50);
        due.is("plan(), 8 mirrors of 80", planOfTwoHoursSoil(8), 0);
    }

    /** At hour 18, with sun in hour 20: the soil of two hours is to come, not that of the day. */
    private static int planOfTwoHoursSoil(int mirrors) {
        MirrorTower x = Fields.plant(mirrors, 20);
        Fields.waitFor(x, 18);
        x.dust(10);
        return x.plan();
    }

    private static void planAsTheyAre(Due due) {
        MirrorTower x = Fields.plant(12, 20);
        Fields.waitFor(x, 20);
        due.is("plan(), cold, empty, 12 units to come", x.plan(), 100);
        x.step(true);
        due.is("plan(), warm with 5", x.plan(), 50);
        runs(due, x, 21, 1 << 21);
        x.step(false);
        due.is("plan(), cold with 5", x.plan(), 0);
        runs(due, x, 22, 0);
    }

    private static void planTells(Due due) {
        MirrorTower x = Fields.plant(14, 0);
        x.step(true);
        due.is("plan(): what was earned isn't of it", x.plan(), 50);
        due.is("plan() again", x.plan(), 50);
        due.is("earned()", x.earned(), 50);
        due.is("count(1)", x.count(1), 1);
        due.is("count(2)", x.count(2), 7);
        due.is("count(3)", x.count(3), 1);
        due.is("plan() without mirrors", new MirrorTower().plan(), 0);
    }

    private static void latestPlan(Due due) {
        MirrorTower x = Fields.plant(7, 20);
        Fields.waitFor(x, 20);
        x.plan();
        runs(due, x, 20, 1 << 23);
        x.price(21, 900);
        runs(due, x, 20, 1 << 23);
        Fields.waitFor(x, 1);
        runs(due, x, 20, 1 << 23);
        x.plan();
        runs(due, x, 21, 1 << 21);
        Fields.waitFor(x, 4);
        due.is("count(1)", x.count(1), 1);
        runs(due, x, 21, 1 << 21);
    }

    private static void runsNone(Due due) {
        MirrorTower x = Fields.plant(7, 5);
        for (int hour = 0; hour < 24; hour++) {
            due.is("runs(" + hour + ") ahead of any plan", x.runs(hour), NONE);
        }
        x.step(false);
        x.plan();
        for (int hour : Fields.WRONG_HOURS) {
            due.is("runs(" + hour + ")", x.runs(hour), NONE);
        }
        due.is("runs(0), ahead of the plan's first hour", x.runs(0), NONE);
        due.is("runs(1), the plan's first hour", x.runs(1), 0);
        due.is("runs(23)", x.runs(23), 1);
    }

    private static void stepTells(Due due) {
        MirrorTower x = Fields.plant(20, 0);
        due.is(x, "step(false)", x.step(false), 0, 0);
        due.is("count(1)", x.count(1), 1);
        due.is("count(3)", x.count(3), 0);
        due.is(x, "step(true)", x.step(true), 50, 0);
        due.is("count(1)", x.count(1), 2);
        due.is("count(3)", x.count(3), 1);
        due.is(x, "step(false)", x.step(false), 0, 0);
        due.is("count(3)", x.count(3), 0);
        due.is("count(2)", x.count(2), 13);
    }

    private static void thenSoilGrows(Due due) {
        MirrorTower x = Fields.plant(7, 0, 1);
        x.dust(1);
        due.is("step(true): 7 units ahead of soil", x.step(true), 50);
        due.is("soil(0)", x.soil(0), 1);
        x.step(false);
        due.is("count(2): 6 units behind it", x.count(2), 6);
        due.is("soil(0)", x.soil(0), 2);
    }

    private static void tooFewUnits(Due due) {
        MirrorTower none = new MirrorTower();
        due.is(none, "step(true) with 0", none.step(true), NONE, 2);
        MirrorTower cold = Fields.plant(6, 0);
        due.is(cold, "step(true), cold with 6", cold.step(true), NONE, 2);
        due.is(cold, "step(false) with 6", cold.step(false), 0, 0);
        due.is(cold, "step(true), cold with 6 held", cold.step(true), NONE, 2);
        MirrorTower warm = Fields.plant(11, 0);
        warm.step(true);
        due.is(warm, "step(true), warm with 4", warm.step(true), NONE, 2);
        due.is(none, "step(false) with 0 may always be", none.step(false), 0, 0);
    }

    private static void nothingGoesBy(Due due) {
        MirrorTower x = Fields.plant(11, 22, 23);
        Fields.waitFor(x, 22);
        x.step(true);
        x.sun(23, 0, 1, 0);
        x.dust(3);
        for (int i = 0; i < 3; i++) {
            due.is(x, "step(true), warm with 4", x.step(true), NONE, 2);
            due.is("count(1)", x.count(1), 23);
            due.is("count(2)", x.count(2), 4);
            due.is("count(3): still warm", x.count(3), 1);
            due.is("count(5)", x.count(5), 0);
            due.is("earned()", x.earned(), 50);
        }
        x.sun(23, 0, 1, 9);
        due.is(x, "step(true), now that heat comes", x.step(true), 50, 0);
        due.is("count(2): it came in once", x.count(2), 10);
        due.is("count(5)", x.count(5), 33);
        due.is("count(1)", x.count(1), 0);
    }

    private static void behindTheLast(Due due) {
        MirrorTower x = Fields.plant(7, 23);
        for (int i = 0; i < 60; i++) {
            due.is("count(1)", x.count(1), i % 24);
            x.step(false);
        }
        MirrorTower y = Fields.plant(7, 23);
        Fields.waitFor(y, 23);
        due.is("step(true) in hour 23", y.step(true), 50);
        due.is("count(1)", y.count(1), 0);
    }

    private static void theyStay(Due due) {
        MirrorTower x = Fields.plant(12, 23);
        x.dust(2);
        Fields.waitFor(x, 22);
        x.wash(40);
        x.dust(0);
        x.step(false);
        x.dust(5);
        x.step(true);
        due.is("count(1)", x.count(1), 0);
        due.is("count(2)", x.count(2), 5);
        due.is("count(3)", x.count(3), 1);
        due.is("count(5)", x.count(5), 60);
        due.is("earned()", x.earned(), 50);
        due.is("step(true), warm over night", x.step(true), 50);
        MirrorTower cold = Fields.plant(6, 23);
        Fields.waitFor(cold, 24);
        due.is("count(2)", cold.count(2), 6);
        due.is(cold, "step(true), cold over night", cold.step(true), NONE, 2);
    }

    private static void earnedInAll(Due due) {
        MirrorTower x = Fields.plant(40, Fields.ALL_HOURS);
        due.is("earned() at first", x.earned(), 0);
        for (int hour = 0; hour < 24; hour++) {
            x.price(hour, 999);
        }
        for (int i = 0; i < 400; i++) {
            x.step(true);
        }
        due.is("earned() of 400 hours", x.earned(), 400 * 4995);
        MirrorTower y = Fields.plant(12, 0);
        y.step(true);
        y.step(true);
        y.step(true);
        y.step(false);
        due.is("earned(): refused and idle hours earn nothing", y.earned(), 100);
    }
}
