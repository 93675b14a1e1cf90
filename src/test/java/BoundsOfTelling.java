/** Term I and promises 1 to 7: the bounds of all, the new object, and what is told to it. */
final class BoundsOfTelling {
    private static final int NONE = MirrorTower.NONE;
    private static final int LEAST = Integer.MIN_VALUE;
    private static final int MOST = Integer.MAX_VALUE;

    private BoundsOfTelling() { }

    static void all(Sentences doc) {
        termI(doc);
        newObject(doc);
        promises(doc);
    }

    private static void termI(Sentences doc) {
        doc.noBound("I", "BOUNDS");
        doc.test("I", "A GRID of 15 by 15 places", BoundsOfTelling::everyPlace);
        doc.test("I", "x 0 .. 14", BoundsOfTelling::columns);
        doc.test("I", "y 0 .. 14", BoundsOfTelling::rows);
        doc.test("I", "the tower is at (7, 0)", BoundsOfTelling::towerPlace);
        doc.test("I", "MIRRORS 40", BoundsOfTelling::fortyMirrors);
        doc.test("I", "FACE 4 cells", BoundsOfTelling::fourCells);
        doc.test("I", "HOURS 0 .. 23", BoundsOfTelling::hours);
        doc.test("I", "SHOTS 12", BoundsOfTelling::twelveShots);
    }

    private static void newObject(Sentences doc) {
        doc.test("1", "No MIRRORS", BoundsOfTelling::noMirrors);
        doc.test("1", "no sun", BoundsOfTelling::noSun);
        doc.test("1", "HOUR 0", BoundsOfTelling::hourZero);
        doc.test("1", "an empty STORE", BoundsOfTelling::emptyStore);
        doc.test("1", "the turbine not warm", BoundsOfTelling::notWarm);
    }

    private static void promises(Sentences doc) {
        doc.test("2", "A MIRROR at a place: its number", BoundsOfTelling::numbersInTurn);
        doc.test("2", "NONE: 2; 4; 3", BoundsOfTelling::mirrorRefusals);
        doc.test("3", "SUN of an HOUR: true", BoundsOfTelling::sunTold);
        doc.test("3", "false (2)", BoundsOfTelling::sunRefusals);
        doc.test("4", "LIMIT of a FACE cell: true", BoundsOfTelling::limitTold);
        doc.test("4", "false: 1; 2", BoundsOfTelling::limitRefusals);
        doc.test("5", "WIND of an HOUR: true", BoundsOfTelling::windTold);
        doc.test("5", "false (2)", BoundsOfTelling::windRefusals);
        doc.test("6", "PRICE of an HOUR: true", BoundsOfTelling::priceTold);
        doc.test("6", "false (2)", BoundsOfTelling::priceRefusals);
        doc.test("7", "DUST becomes it: true", BoundsOfTelling::dustTold);
        doc.test("7", "false (2)", BoundsOfTelling::dustRefusals);
    }

    private static void everyPlace(Due due) {
        MirrorTower x = new MirrorTower();
        for (int place = 0; place < 15 * 15; place++) {
            if (x.count(0) == 40) {
                x = new MirrorTower();
            }
            if (place != 7) {
                int number = x.count(0);
                String call = "mirror(" + place % 15 + ", " + place / 15 + ")";
                due.is(x, call, x.mirror(place % 15, place / 15), number, 0);
            }
        }
    }

    private static void columns(Due due) {
        MirrorTower x = new MirrorTower();
        due.is(x, "mirror(-1, 5)", x.mirror(-1, 5), NONE, 2);
        due.is(x, "mirror(0, 5)", x.mirror(0, 5), 0, 0);
        due.is(x, "mirror(15, 5)", x.mirror(15, 5), NONE, 2);
        due.is(x, "mirror(14, 5)", x.mirror(14, 5), 1, 0);
        due.is(x, "mirror(least, 5)", x.mirror(LEAST, 5), NONE, 2);
        due.is(x, "mirror(most, 5)", x.mirror(MOST, 5), NONE, 2);
    }

    private static void rows(Due due) {
        MirrorTower x = new MirrorTower();
        due.is(x, "mirror(5, -1)", x.mirror(5, -1), NONE, 2);
        due.is(x, "mirror(5, 0)", x.mirror(5, 0), 0, 0);
        due.is(x, "mirror(5, 15)", x.mirror(5, 15), NONE, 2);
        due.is(x, "mirror(5, 14)", x.mirror(5, 14), 1, 0);
        due.is(x, "mirror(5, least)", x.mirror(5, LEAST), NONE, 2);
        due.is(x, "mirror(5, most)", x.mirror(5, MOST), NONE, 2);
        due.is(x, "mirror(7, -1)", x.mirror(7, -1), NONE, 2);
    }

    private static void towerPlace(Due due) {
        MirrorTower x = new MirrorTower();
        due.is(x, "mirror(7, 0)", x.mirror(7, 0), NONE, 4);
        due.is(x, "mirror(6, 0)", x.mirror(6, 0), 0, 0);
        due.is(x, "mirror(8, 0)", x.mirror(8, 0), 1, 0);
        due.is(x, "mirror(7, 1)", x.mirror(7, 1), 2, 0);
        due.is(x, "mirror(0, 7)", x.mirror(0, 7), 3, 0);
    }

    private static void fortyMirrors(Due due) {
        MirrorTower x = Fields.of(39);
        due.is(x, "mirror, the 40th", x.mirror(0, 14), 39, 0);
        due.is(x, "mirror, the 41st", x.mirror(1, 14), NONE, 3);
        due.is("count(0)", x.count(0), 40);
        due.is("soil(39)", x.soil(39), 0);
        due.is("soil(40)", x.soil(40), NONE);
    }

    private static void fourCells(Due due) {
        MirrorTower x = new MirrorTower();
        for (int cell = 0; cell < 4; cell++) {
            due.is("face(" + cell + ")", x.face(cell), 0);
            due.is(x, "limit(" + cell + ", 1)", x.limit(cell, 1), true, 0);
        }
        for (int cell : new int[] {-1, 4, LEAST, MOST}) {
            due.is("face(" + cell + ")", x.face(cell), NONE);
            due.is(x, "limit(" + cell + ", 1)", x.limit(cell, 1), false, 1);
        }
    }

    private static void hours(Due due) {
        MirrorTower x = Fields.of(1);
        x.plan();
        for (int hour = 0; hour < 24; hour++) {
            lookAtHour(due, x, hour, true);
        }
        for (int hour : Fields.WRONG_HOURS) {
            lookAtHour(due, x, hour, false);
        }
    }

    private static void lookAtHour(Due due, MirrorTower x, int hour, boolean isOne) {
        String of = " of hour " + hour;
        int answer = isOne ? 0 : NONE;
        int trouble = isOne ? 0 : 2;
        due.is("shaded" + of, x.shaded(0, hour, false), answer);
        due.is("blocked" + of, x.shaded(0, hour, true), answer);
        due.is("power" + of, x.power(0, hour), answer);
        due.is("stowed" + of, x.stowed(hour), answer);
        due.is("comes" + of, x.comes(hour), answer);
        due.is("runs" + of, x.runs(hour), answer);
        due.is(x, "aim" + of, x.aim(hour), answer, trouble);
        due.is(x, "best" + of, x.best(hour), answer, trouble);
        due.is(x, "wind" + of, x.wind(hour, 0), isOne, trouble);
        due.is(x, "price" + of, x.price(hour, 5), isOne, trouble);
        due.is(x, "sun" + of, x.sun(hour, 1, 0, 0), isOne, trouble);
    }

    private static void twelveShots(Due due) {
        MirrorTower x = Fields.of(1);
        for (int i = 0; i < 12; i++) {
            due.is(x, "shot " + i, x.shot(1, 0, 1), i, 0);
        }
        due.is(x, "shot, the 13th", x.shot(1, 0, 1), NONE, 3);
        due.is("count(4)", x.count(4), 12);
    }

    private static void noMirrors(Due due) {
        MirrorTower x = new MirrorTower();
        due.is("count(0)", x.count(0), 0);
        due.is("count(5)", x.count(5), 0);
        due.is("soil(0)", x.soil(0), NONE);
        due.is("power(0, 0)", x.power(0, 0), NONE);
        due.is("shaded(0, 0, false)", x.shaded(0, 0, false), NONE);
        due.is("aimed(0)", x.aimed(0), NONE);
        due.is("stuck(0)", x.stuck(0), NONE);
        due.is("aim(0)", x.aim(0), 0);
        due.is("best(0)", x.best(0), 0);
        due.is("comes(0)", x.comes(0), 0);
        due.is("plan()", x.plan(), 0);
        due.is("wash(1)", x.wash(1), 0);
        due.is("agree(): the set of none", x.agree(), 1);
        due.is("unsure()", x.unsure(), 0);
        due.is("trouble()", new MirrorTower().trouble(), 0);
        due.is("forget()", x.forget(), 0);
        due.is("step(false)", x.step(false), 0);
    }

    private static void noSun(Due due) {
        MirrorTower x = Fields.of(20);
        for (int hour = 0; hour < 24; hour++) {
            due.is("power(0, " + hour + ")", x.power(0, hour), 0);
            due.is("shaded(3, " + hour + ", false)", x.shaded(3, hour, false), 0);
            due.is("comes(" + hour + ")", x.comes(hour), 0);
            due.is("aim(" + hour + ")", x.aim(hour), 0);
        }
    }

    private static void hourZero(Due due) {
        MirrorTower x = new MirrorTower();
        due.is("count(1)", x.count(1), 0);
        due.is("comes(0), now", x.comes(0), 0);
        due.is("earned()", x.earned(), 0);
    }

    private static void emptyStore(Due due) {
        MirrorTower x = new MirrorTower();
        due.is("count(2)", x.count(2), 0);
        due.is(x, "step(true)", x.step(true), NONE, 2);
        x.step(false);
        due.is("count(2) behind an hour without mirrors", x.count(2), 0);
    }

    private static void notWarm(Due due) {
        MirrorTower x = Fields.plant(6, 0);
        due.is("count(3)", x.count(3), 0);
        due.is(x, "step(true) with 6 units", x.step(true), NONE, 2);
        MirrorTower y = Fields.plant(7, 0);
        due.is(y, "step(true) with 7 units", y.step(true), 50, 0);
        due.is("count(2)", y.count(2), 0);
    }

    private static void numbersInTurn(Due due) {
        MirrorTower x = new MirrorTower();
        due.is(x, "mirror, the first", x.mirror(3, 3), 0, 0);
        due.is(x, "mirror, the second", x.mirror(4, 3), 1, 0);
        x.mirror(4, 3);
        x.mirror(15, 3);
        due.is("count(0): refused ones are none", x.count(0), 2);
        due.is(x, "mirror behind refused ones", x.mirror(3, 4), 2, 0);
        due.is("soil(2)", x.soil(2), 0);
        due.is("soil(3)", x.soil(3), NONE);
    }

    /** The first of the listed troubles that fits is the one that is told. */
    private static void mirrorRefusals(Due due) {
        MirrorTower x = Fields.of(39);
        due.is(x, "mirror outside", x.mirror(15, 1), NONE, 2);
        due.is(x, "mirror at a taken place", x.mirror(0, 1), NONE, 4);
        due.is(x, "mirror at the tower's place", x.mirror(7, 0), NONE, 4);
        due.is(x, "mirror, the 40th", x.mirror(14, 14), 39, 0);
        due.is(x, "mirror outside of a full field", x.mirror(-1, 1), NONE, 2);
        due.is(x, "mirror at a taken place of a full field", x.mirror(14, 14), NONE, 4);
        due.is(x, "mirror at the tower's place of a full field", x.mirror(7, 0), NONE, 4);
        due.is(x, "mirror at a free place of a full field", x.mirror(13, 14), NONE, 3);
        due.is(x, "mirror there again: it isn't taken", x.mirror(13, 14), NONE, 3);
        due.is("count(0)", x.count(0), 40);
    }

    private static void sunTold(Due due) {
        MirrorTower x = Fields.of(1);
        due.is(x, "sun(5, 1, 0, 3)", x.sun(5, 1, 0, 3), true, 0);
        due.is("power(0, 5)", x.power(0, 5), 40);
        due.is("power(0, 4), another hour", x.power(0, 4), 0);
        due.is("power(0, 6), another hour", x.power(0, 6), 0);
        due.is(x, "sun(5, 0, 1, 9)", x.sun(5, 0, 1, 9), true, 0);
        due.is("power(0, 5), told anew", x.power(0, 5), 100);
        due.is(x, "sun(0, 0, 1, 1)", x.sun(0, 0, 1, 1), true, 0);
        due.is("power(0, 0)", x.power(0, 0), 20);
        due.is(x, "sun(23, 0, 1, 2)", x.sun(23, 0, 1, 2), true, 0);
        due.is("power(0, 23)", x.power(0, 23), 30);
    }

    private static void sunRefusals(Due due) {
        MirrorTower x = Fields.of(2);
        x.sun(5, 1, 0, 3);
        int[][] wrong = {{-1, 0, 1, 8}, {24, 0, 1, 8}, {5, 3, 0, 8}, {5, -3, 0, 8}, {5, 0, 3, 8},
                {5, 0, -3, 8}, {5, 0, 0, 8}, {5, 0, 1, -1}, {5, 0, 1, 10}, {5, LEAST, 0, 8},
                {5, 0, LEAST, 8}, {5, MOST, 0, 8}, {5, 0, MOST, 8}, {5, 0, 1, LEAST},
                {5, 0, 1, MOST}, {LEAST, 0, 1, 8}, {MOST, 0, 1, 8}};
        for (int[] w : wrong) {
            x.dust(1);
            String call = "sun(" + w[0] + ", " + w[1] + ", " + w[2] + ", " + w[3] + ")";
            due.is(x, call, x.sun(w[0], w[1], w[2], w[3]), false, 2);
            due.is("power(1, 5) stays", x.power(1, 5), 40);
            due.is("power(0, 5) stays, shaded", x.power(0, 5), 20);
        }
    }

    private static void limitTold(Due due) {
        MirrorTower x = Fields.bright(2, 0);
        Fields.limits(x, 0, 0, 0, 0);
        for (int cell = 0; cell < 4; cell++) {
            due.is(x, "limit(" + cell + ", 150)", x.limit(cell, 150), true, 0);
            due.is("aim(0)", x.aim(0), 100);
            due.is("aimed(0)", x.aimed(0), cell);
            due.is(x, "limit(" + cell + ", 200)", x.limit(cell, 200), true, 0);
            due.is("aim(0)", x.aim(0), 200);
            x.limit(cell, 0);
        }
    }

    private static void limitRefusals(Due due) {
        MirrorTower x = Fields.bright(2, 0);
        Fields.limits(x, 0, 0, 0, 150);
        int[][] noCell = {{-1, 5}, {4, 5}, {LEAST, 5}, {MOST, 5}, {4, -1}, {-1, 10001}};
        for (int[] w : noCell) {
            x.dust(0);
            due.is(x, "limit(" + w[0] + ", " + w[1] + ")", x.limit(w[0], w[1]), false, 1);
        }
        for (int v : new int[] {-1, 10001, LEAST, MOST}) {
            x.dust(0);
            due.is(x, "limit(3, " + v + ")", x.limit(3, v), false, 2);
        }
        due.is("aim(0): all stay as they were", x.aim(0), 100);
        due.is("aimed(0)", x.aimed(0), 3);
    }

    private static void windTold(Due due) {
        MirrorTower x = new MirrorTower();
        due.is(x, "wind(12, 99)", x.wind(12, 99), true, 0);
        due.is("stowed(12)", x.stowed(12), 1);
        due.is(x, "wind(12, 0)", x.wind(12, 0), true, 0);
        due.is("stowed(12), told anew", x.stowed(12), 0);
        due.is(x, "wind(0, 51)", x.wind(0, 51), true, 0);
        due.is("stowed(0)", x.stowed(0), 1);
        due.is(x, "wind(23, 51)", x.wind(23, 51), true, 0);
        due.is("stowed(23)", x.stowed(23), 1);
    }

    private static void windRefusals(Due due) {
        MirrorTower x = new MirrorTower();
        x.wind(12, 60);
        for (int hour : Fields.WRONG_HOURS) {
            x.dust(1);
            due.is(x, "wind(" + hour + ", 9)", x.wind(hour, 9), false, 2);
        }
        for (int v : new int[] {-1, 100, LEAST, MOST}) {
            x.dust(1);
            due.is(x, "wind(12, " + v + ")", x.wind(12, v), false, 2);
            due.is(x, "wind(3, " + v + ")", x.wind(3, v), false, 2);
        }
        due.is("stowed(12) stays", x.stowed(12), 1);
        due.is("stowed(3) stays", x.stowed(3), 0);
    }

    private static void priceTold(Due due) {
        MirrorTower x = Fields.plant(40, 0, 22);
        due.is(x, "price(0, 7)", x.price(0, 7), true, 0);
        due.is(x, "price(0, 8)", x.price(0, 8), true, 0);
        due.is(x, "price(23, 9)", x.price(23, 9), true, 0);
        due.is("step(true) in hour 0, told anew", x.step(true), 40);
        due.is("step(true) in hour 1", x.step(true), 50);
        Fields.waitFor(x, 21);
        due.is("step(true) in hour 23", x.step(true), 45);
    }

    private static void priceRefusals(Due due) {
        MirrorTower x = Fields.plant(7, 0);
        x.price(0, 7);
        for (int hour : Fields.WRONG_HOURS) {
            x.dust(0);
            due.is(x, "price(" + hour + ", 9)", x.price(hour, 9), false, 2);
        }
        for (int v : new int[] {-1, 1000, LEAST, MOST}) {
            x.dust(0);
            due.is(x, "price(0, " + v + ")", x.price(0, v), false, 2);
        }
        due.is("step(true) at the price that stood", x.step(true), 35);
    }

    private static void dustTold(Due due) {
        MirrorTower x = Fields.of(1);
        due.is(x, "dust(5)", x.dust(5), true, 0);
        due.is("soil(0): no hour went by", x.soil(0), 0);
        x.step(false);
        due.is("soil(0)", x.soil(0), 5);
        due.is(x, "dust(2)", x.dust(2), true, 0);
        x.step(false);
        due.is("soil(0), told anew", x.soil(0), 7);
    }

    private static void dustRefusals(Due due) {
        MirrorTower x = Fields.of(1);
        x.dust(5);
        for (int v : new int[] {-1, 21, LEAST, MOST}) {
            x.wind(0, 0);
            due.is(x, "dust(" + v + ")", x.dust(v), false, 2);
        }
        x.step(false);
        due.is("soil(0) by the dust that stood", x.soil(0), 5);
    }
}
