/** Term II and promises 8 to 12: shade, blocking, power, stows, soil and washing. */
final class BoundsOfLight {
    private static final int NONE = MirrorTower.NONE;
    private static final int LEAST = Integer.MIN_VALUE;
    private static final int MOST = Integer.MAX_VALUE;

    private BoundsOfLight() { }

    static void all(Sentences doc) {
        sun(doc);
        power(doc);
        soil(doc);
        promises(doc);
    }

    private static void sun(Sentences doc) {
        doc.noBound("II", "SUN of an HOUR");
        doc.test("II", "a step (dx, dy), each -2 .. 2", BoundsOfLight::everyStep);
        doc.test("II", "not both 0", BoundsOfLight::notBothZero);
        doc.test("II", "from which it shines", BoundsOfLight::fromWhere);
        doc.test("II", "with a HEIGHT (0 .. 9", BoundsOfLight::heights);
        doc.test("II", "0: no sun", BoundsOfLight::heightZero);
        doc.test("II", "none is told at first", BoundsOfLight::noneTold);
        doc.test("II", "A MIRROR is SHADED in an HOUR with sun", BoundsOfLight::hourWithSun);
        doc.test("II", "by each other one that stands 1 .. 10 - HEIGHT of its steps on from it",
                BoundsOfLight::reach);
        doc.test("II", "It is BLOCKED by each other one right between it and the tower",
                BoundsOfLight::eachBetween);
        doc.test("II", "on the line from one to the other", BoundsOfLight::onTheLine);
        doc.test("II", "both ends left out", BoundsOfLight::endsLeftOut);
    }

    private static void power(Sentences doc) {
        doc.noBound("II", "POWER of a MIRROR in an HOUR");
        doc.test("II", "10 times HEIGHT and 10 more", BoundsOfLight::powerByHeight);
        doc.test("II", "less its SOIL", BoundsOfLight::powerLessSoil);
        doc.test("II", "halved (downwards)", BoundsOfLight::halvedDownwards);
        doc.test("II", "for each that SHADES or BLOCKS it, each time anew",
                BoundsOfLight::halvedForEach);
        doc.test("II", "0 without sun", BoundsOfLight::powerWithoutSun);
        doc.test("II", "or if it is STOWED", BoundsOfLight::powerInAStow);
        doc.test("II", "never below 0", BoundsOfLight::powerNeverBelow);
    }

    private static void soil(Sentences doc) {
        doc.test("II", "SOIL (0 .. 90)", BoundsOfLight::soilRange);
        doc.test("II", "as an HOUR goes by it grows by DUST", BoundsOfLight::soilGrows);
        doc.test("II", "(0 .. 20", BoundsOfLight::dustRange);
        doc.test("II", "1 at first", BoundsOfLight::firstDust);
        doc.test("II", "to 90 at most", BoundsOfLight::ninetyAtMost);
        doc.test("II", "WASH: so many MIRRORS have SOIL 0: those with the most SOIL",
                BoundsOfLight::washesTheMost);
        doc.test("II", "of as much the least number", BoundsOfLight::washesTheLeastNumber);
    }

    private static void promises(Sentences doc) {
        doc.test("8", "How many SHADE (or BLOCK) a MIRROR in an HOUR", BoundsOfLight::shadeOrBlock);
        doc.test("8", "NONE", BoundsOfLight::shadedNone);
        doc.test("9", "POWER of a MIRROR in an HOUR, by SOIL as it is", BoundsOfLight::powerBySoilNow);
        doc.test("9", "NONE", BoundsOfLight::powerNone);
        doc.test("10", "Whether all are STOWED in an HOUR: 1, 0", BoundsOfLight::stowedOrNot);
        doc.test("10", "NONE", BoundsOfLight::stowedNone);
        doc.test("11", "SOIL of a MIRROR", BoundsOfLight::soilOfEach);
        doc.test("11", "NONE", BoundsOfLight::soilNone);
        doc.test("12", "WASH of so many (1 .. 40", BoundsOfLight::washRange);
        doc.test("12", "all if there are fewer", BoundsOfLight::washAll);
        doc.test("12", "how much SOIL is gone", BoundsOfLight::washTells);
        doc.test("12", "NONE (2)", BoundsOfLight::washRefused);
    }

    private static void everyStep(Due due) {
        for (int dx = -3; dx <= 3; dx++) {
            for (int dy = -3; dy <= 3; dy++) {
                boolean isStep = Math.abs(dx) <= 2 && Math.abs(dy) <= 2 && (dx != 0 || dy != 0);
                String call = "sun(8, " + dx + ", " + dy + ", 9)";
                MirrorTower x = new MirrorTower();
                x.mirror(7, 7);
                x.mirror(7 + dx, 7 + dy);
                due.is(x, call, x.sun(8, dx, dy, 9), isStep, isStep ? 0 : 2);
                due.is("shaded(0, 8, false) by " + call, x.shaded(0, 8, false), isStep ? 1 : 0);
            }
        }
    }

    private static void notBothZero(Due due) {
        MirrorTower x = Fields.of(1);
        for (int height = 0; height <= 9; height++) {
            x.dust(1);
            due.is(x, "sun(8, 0, 0, " + height + ")", x.sun(8, 0, 0, height), false, 2);
            due.is("power(0, 8)", x.power(0, 8), 0);
        }
        due.is(x, "sun(8, 0, 1, 9)", x.sun(8, 0, 1, 9), true, 0);
        due.is(x, "sun(8, 1, 0, 9)", x.sun(8, 1, 0, 9), true, 0);
    }

    private static void fromWhere(Due due) {
        MirrorTower x = new MirrorTower();
        x.mirror(5, 5);
        x.mirror(6, 5);
        x.sun(8, 1, 0, 9);
        due.is("shaded(0), towards the sun stands one", x.shaded(0, 8, false), 1);
        due.is("shaded(1), it is nearer to the sun", x.shaded(1, 8, false), 0);
        x.sun(8, -1, 0, 9);
        due.is("shaded(0), the sun behind", x.shaded(0, 8, false), 0);
        due.is("shaded(1), the sun behind", x.shaded(1, 8, false), 1);
    }

    private static void heights(Due due) {
        MirrorTower x = new MirrorTower();
        for (int height = 0; height <= 9; height++) {
            due.is(x, "sun(8, 1, 0, " + height + ")", x.sun(8, 1, 0, height), true, 0);
        }
        for (int height : new int[] {-1, 10, LEAST, MOST}) {
            x.dust(1);
            due.is(x, "sun(8, 1, 0, " + height + ")", x.sun(8, 1, 0, height), false, 2);
        }
    }

    private static void heightZero(Due due) {
        MirrorTower x = Fields.of(3);
        x.sun(8, 1, 0, 1);
        due.is("power(2, 8) at height 1", x.power(2, 8), 20);
        due.is("shaded(0, 8, false) at height 1", x.shaded(0, 8, false), 2);
        due.is(x, "sun(8, 1, 0, 0)", x.sun(8, 1, 0, 0), true, 0);
        due.is("power(2, 8)", x.power(2, 8), 0);
        due.is("shaded(0, 8, false)", x.shaded(0, 8, false), 0);
        due.is("aim(8)", x.aim(8), 0);
        due.is("best(8)", x.best(8), 0);
        due.is("comes(8)", x.comes(8), 0);
    }

    private static void noneTold(Due due) {
        MirrorTower x = Fields.of(2);
        for (int hour = 0; hour < 24; hour++) {
            due.is("power(0, " + hour + ")", x.power(0, hour), 0);
            due.is("best(" + hour + ")", x.best(hour), 0);
        }
    }

    private static void hourWithSun(Due due) {
        MirrorTower x = Fields.of(15);
        x.sun(8, 1, 0, 9);
        for (int hour = 0; hour < 24; hour++) {
            due.is("shaded(0, " + hour + ", false)", x.shaded(0, hour, false), hour == 8 ? 1 : 0);
        }
    }

    private static void reach(Due due) {
        int[][] rays = {{0, 5, 1, 0}, {14, 5, -1, 0}, {5, 0, 0, 1}, {5, 14, 0, -1}, {0, 0, 1, 1},
                {14, 14, -1, -1}, {0, 3, 2, 0}, {3, 14, 0, -2}, {14, 0, -2, 1}};
        for (int[] ray : rays) {
            for (int height = 1; height <= 9; height++) {
                reachAlong(due, ray, height);
            }
        }
        reachEndsWithTheGrid(due);
    }

    /** From each edge outwards, with the places of the other edge taken: nothing wraps around. */
    private static void reachEndsWithTheGrid(Due due) {
        MirrorTower x = new MirrorTower();
        for (int i = 0; i < 15; i += 7) {
            for (int j = 0; j < 15; j += 7) {
                x.mirror(i, j);
            }
        }
        x.mirror(6, 0);
        x.mirror(0, 8);
        x.mirror(14, 6);
        for (int dx = -2; dx <= 2; dx++) {
            for (int dy = -2; dy <= 2; dy++) {
                x.sun(8, dx, dy, 1);
                lookOutwards(due, x, 0, dx < 0 || dy < 0);
                lookOutwards(due, x, 2, dx < 0 || dy > 0);
                lookOutwards(due, x, 5, dx > 0 || dy < 0);
                lookOutwards(due, x, 7, dx > 0 || dy > 0);
            }
        }
    }

    private static void lookOutwards(Due due, MirrorTower x, int mirror, boolean isOutwards) {
        if (isOutwards) {
            due.is("shaded(" + mirror + ", 8, false) from outside", x.shaded(mirror, 8, false), 0);
        }
    }

    /** One alone so many steps on, then all of them together. */
    private static void reachAlong(Due due, int[] ray, int height) {
        MirrorTower all = new MirrorTower();
        all.mirror(ray[0], ray[1]);
        all.sun(8, ray[2], ray[3], height);
        int within = 0;
        for (int steps = 1; steps <= 11; steps++) {
            int x = ray[0] + steps * ray[2];
            int y = ray[1] + steps * ray[3];
            boolean isPlace = x >= 0 && x <= 14 && y >= 0 && y <= 14;
            int shades = isPlace && steps <= 10 - height ? 1 : 0;
            MirrorTower one = new MirrorTower();
            one.mirror(ray[0], ray[1]);
            one.mirror(x, y);
            one.sun(8, ray[2], ray[3], height);
            String when = " at height " + height + ", " + steps + " steps of " + ray[2] + ", " + ray[3];
            due.is("shaded by one" + when, one.shaded(0, 8, false), shades);
            all.mirror(x, y);
            within += shades;
        }
        due.is("shaded by all at height " + height, all.shaded(0, 8, false), within);
    }

    private static void eachBetween(Due due) {
        MirrorTower x = new MirrorTower();
        for (int y = 1; y <= 14; y++) {
            x.mirror(7, y);
        }
        for (int i = 0; i < 14; i++) {
            due.is("shaded(" + i + ", 0, true)", x.shaded(i, 0, true), i);
        }
        MirrorTower back = new MirrorTower();
        for (int y = 14; y >= 1; y--) {
            back.mirror(7, y);
        }
        due.is("shaded(0, 0, true): those that came behind it, too", back.shaded(0, 0, true), 13);
        due.is("shaded(13, 0, true)", back.shaded(13, 0, true), 0);
    }

    private static void onTheLine(Due due) {
        MirrorTower x = new MirrorTower();
        x.mirror(11, 8);
        due.is("shaded(0, 0, true) alone", x.shaded(0, 0, true), 0);
        int[][] beside = {{9, 5}, {9, 3}, {8, 3}, {10, 7}, {8, 1}, {10, 8}, {3, 8}, {5, 4}, {9, 0}};
        for (int[] place : beside) {
            x.mirror(place[0], place[1]);
            due.is("shaded(0, 0, true) by one beside", x.shaded(0, 0, true), 0);
        }
        int[][] on = {{9, 4}, {8, 2}, {10, 6}};
        for (int i = 0; i < on.length; i++) {
            x.mirror(on[i][0], on[i][1]);
            due.is("shaded(0, 0, true) by one on the line", x.shaded(0, 0, true), i + 1);
        }
        MirrorTower row = new MirrorTower();
        row.mirror(0, 0);
        row.mirror(3, 0);
        row.mirror(6, 0);
        due.is("shaded(0, 0, true) in the tower's row", row.shaded(0, 0, true), 2);
    }

    private static void endsLeftOut(Due due) {
        MirrorTower x = new MirrorTower();
        x.mirror(8, 2);
        due.is("shaded(0, 0, true): it isn't between", x.shaded(0, 0, true), 0);
        x.mirror(9, 4);
        due.is("shaded(0, 0, true): one farther off isn't", x.shaded(0, 0, true), 0);
        due.is("shaded(1, 0, true): the nearer one is", x.shaded(1, 0, true), 1);
        MirrorTower row = new MirrorTower();
        row.mirror(6, 0);
        row.mirror(8, 0);
        row.mirror(14, 0);
        due.is("shaded(0, 0, true): beyond the tower", row.shaded(0, 0, true), 0);
        due.is("shaded(1, 0, true): beyond the tower", row.shaded(1, 0, true), 0);
        due.is("shaded(2, 0, true): the tower isn't one", row.shaded(2, 0, true), 1);
    }

    private static void powerByHeight(Due due) {
        MirrorTower x = Fields.of(1);
        for (int height = 1; height <= 9; height++) {
            x.sun(8, 1, 0, height);
            due.is("power(0, 8) at height " + height, x.power(0, 8), 10 * height + 10);
        }
    }

    private static void powerLessSoil(Due due) {
        MirrorTower x = Fields.bright(1, 8);
        x.dust(20);
        int[] powers = {100, 80, 60, 40, 20, 10, 10};
        for (int power : powers) {
            due.is("power(0, 8)", x.power(0, 8), power);
            x.step(false);
        }
        x.wash(1);
        due.is("power(0, 8), washed", x.power(0, 8), 100);
    }

    private static void halvedDownwards(Due due) {
        MirrorTower x = new MirrorTower();
        x.mirror(7, 1);
        x.mirror(7, 2);
        x.sun(8, 1, 0, 9);
        int[] halves = {50, 49, 49, 48, 48};
        for (int half : halves) {
            due.is("power(1, 8)", x.power(1, 8), half);
            x.step(false);
        }
        x.sun(8, 1, 0, 1);
        Fields.waitFor(x, 14);
        due.is("power(0, 8)", x.power(0, 8), 1);
        due.is("power(1, 8), the half of 1", x.power(1, 8), 0);
    }

    private static void halvedForEach(Due due) {
        MirrorTower blocked = new MirrorTower();
        for (int y = 1; y <= 9; y++) {
            blocked.mirror(7, y);
        }
        blocked.sun(8, 1, 0, 9);
        int[] ofHundred = {100, 50, 25, 12, 6, 3, 1, 0, 0};
        MirrorTower shaded = Fields.of(9);
        shaded.sun(8, 1, 0, 1);
        int[] ofTwenty = {20, 10, 5, 2, 1, 0, 0, 0, 0};
        for (int i = 0; i < 9; i++) {
            due.is("power, blocked by " + i, blocked.power(i, 8), ofHundred[i]);
            due.is("power, shaded by " + i, shaded.power(8 - i, 8), ofTwenty[i]);
        }
        MirrorTower x = new MirrorTower();
        x.mirror(7, 1);
        x.mirror(7, 5);
        x.mirror(8, 5);
        x.sun(8, 1, 0, 9);
        due.is("power, shaded by one and blocked by another", x.power(1, 8), 25);
    }

    private static void powerWithoutSun(Due due) {
        MirrorTower x = Fields.bright(1, 8);
        for (int hour = 0; hour < 24; hour++) {
            due.is("power(0, " + hour + ")", x.power(0, hour), hour == 8 ? 100 : 0);
        }
    }

    private static void powerInAStow(Due due) {
        MirrorTower x = Fields.bright(1, Fields.ALL_HOURS);
        x.wind(8, 51);
        for (int hour = 0; hour < 24; hour++) {
            boolean still = hour == 7 || hour == 8;
            due.is("power(0, " + hour + ")", x.power(0, hour), still ? 0 : 100);
        }
    }

    private static void powerNeverBelow(Due due) {
        MirrorTower x = new MirrorTower();
        x.mirror(7, 1);
        x.mirror(7, 2);
        x.sun(8, 1, 0, 1);
        Fields.waitFor(x, 19);
        due.is("power(0, 8), soil 19 of 20", x.power(0, 8), 1);
        x.step(false);
        due.is("power(0, 8), soil 20 of 20", x.power(0, 8), 0);
        x.step(false);
        due.is("power(0, 8), soil 21 of 20", x.power(0, 8), 0);
        due.is("power(1, 8), halved", x.power(1, 8), 0);
        x.dust(20);
        Fields.waitFor(x, 4);
        due.is("power(0, 8), soil 90 of 20", x.power(0, 8), 0);
        due.is("power(1, 8), halved", x.power(1, 8), 0);
        due.is("aim(8)", x.aim(8), 0);
    }

    private static void soilRange(Due due) {
        MirrorTower x = Fields.of(1);
        due.is("soil(0) at first", x.soil(0), 0);
        x.dust(20);
        int[] soils = {20, 40, 60, 80, 90, 90};
        for (int soil : soils) {
            x.step(false);
            due.is("soil(0)", x.soil(0), soil);
        }
        x.wash(1);
        due.is("soil(0), washed", x.soil(0), 0);
    }

    private static void soilGrows(Due due) {
        MirrorTower x = Fields.of(2);
        x.dust(3);
        x.step(false);
        x.mirror(9, 9);
        due.is("soil(2) of one that comes then", x.soil(2), 0);
        x.step(false);
        due.is("soil(0)", x.soil(0), 6);
        due.is("soil(1)", x.soil(1), 6);
        due.is("soil(2)", x.soil(2), 3);
        x.plan();
        x.comes(23);
        due.is("soil(0): no hour went by", x.soil(0), 6);
    }

    private static void dustRange(Due due) {
        MirrorTower x = Fields.of(1);
        for (int v = 0; v <= 20; v++) {
            due.is(x, "dust(" + v + ")", x.dust(v), true, 0);
            x.step(false);
            due.is("soil(0) by dust " + v, x.soil(0), v);
            x.wash(1);
        }
        for (int v : new int[] {-1, 21, LEAST, MOST}) {
            x.wash(1);
            due.is(x, "dust(" + v + ")", x.dust(v), false, 2);
        }
    }

    private static void firstDust(Due due) {
        MirrorTower x = Fields.of(1);
        x.step(false);
        due.is("soil(0)", x.soil(0), 1);
        x.step(false);
        due.is("soil(0)", x.soil(0), 2);
    }

    private static void ninetyAtMost(Due due) {
        MirrorTower x = Fields.of(1);
        x.dust(20);
        Fields.waitFor(x, 4);
        x.dust(9);
        x.step(false);
        due.is("soil(0)", x.soil(0), 89);
        x.dust(1);
        x.step(false);
        due.is("soil(0)", x.soil(0), 90);
        x.step(false);
        due.is("soil(0)", x.soil(0), 90);
        x.dust(20);
        x.step(false);
        due.is("soil(0)", x.soil(0), 90);
        due.is("count(5)", x.count(5), 90);
    }

    /** Mirror i has been there for 5 - i hours: soils 5, 4, 3, 2, 1. */
    private static MirrorTower stairs() {
        MirrorTower x = new MirrorTower();
        for (int i = 0; i < 5; i++) {
            x.mirror(i, 9);
            x.step(false);
        }
        return x;
    }

    private static void soils(Due due, MirrorTower x, int... want) {
        for (int i = 0; i < want.length; i++) {
            due.is("soil(" + i + ")", x.soil(i), want[i]);
        }
    }

    private static void washesTheMost(Due due) {
        MirrorTower x = stairs();
        due.is("wash(1)", x.wash(1), 5);
        soils(due, x, 0, 4, 3, 2, 1);
        x.step(false);
        due.is("wash(2)", x.wash(2), 9);
        soils(due, x, 1, 0, 0, 3, 2);
        due.is("wash(3)", x.wash(3), 6);
        soils(due, x, 0, 0, 0, 0, 0);
    }

    private static void washesTheLeastNumber(Due due) {
        MirrorTower x = Fields.of(4);
        x.step(false);
        x.wash(1);
        soils(due, x, 0, 1, 1, 1);
        x.wash(2);
        soils(due, x, 0, 0, 0, 1);
        x.step(false);
        due.is("wash(3)", x.wash(3), 4);
        soils(due, x, 0, 0, 1, 0);
    }

    private static void shadeOrBlock(Due due) {
        MirrorTower x = new MirrorTower();
        x.mirror(7, 6);
        x.mirror(7, 3);
        x.mirror(8, 6);
        x.mirror(9, 6);
        x.sun(8, 1, 0, 5);
        due.is("shaded(0, 8, false)", x.shaded(0, 8, false), 2);
        due.is("shaded(0, 8, true)", x.shaded(0, 8, true), 1);
        due.is("shaded(0, 9, false) without sun", x.shaded(0, 9, false), 0);
        due.is("shaded(0, 9, true) without sun", x.shaded(0, 9, true), 1);
        due.is("shaded(3, 8, false)", x.shaded(3, 8, false), 0);
        due.is("shaded(3, 8, true)", x.shaded(3, 8, true), 0);
    }

    private static void shadedNone(Due due) {
        MirrorTower x = Fields.of(2);
        for (boolean blocked : new boolean[] {false, true}) {
            for (int mirror : new int[] {-1, 2, 40, LEAST, MOST}) {
                due.is("shaded(" + mirror + ", 8)", x.shaded(mirror, 8, blocked), NONE);
            }
            for (int hour : Fields.WRONG_HOURS) {
                due.is("shaded(0, " + hour + ")", x.shaded(0, hour, blocked), NONE);
            }
            due.is("shaded(1, 23)", x.shaded(1, 23, blocked), 0);
            due.is("shaded(0, 0) without mirrors", new MirrorTower().shaded(0, 0, blocked), NONE);
        }
    }

    private static void powerBySoilNow(Due due) {
        MirrorTower x = Fields.bright(1, 0, 23);
        x.dust(10);
        due.is("power(0, 23): soil doesn't grow till then", x.power(0, 23), 100);
        x.step(false);
        due.is("power(0, 23)", x.power(0, 23), 90);
        due.is("power(0, 0), an hour gone by", x.power(0, 0), 90);
    }

    private static void powerNone(Due due) {
        MirrorTower x = Fields.bright(2, Fields.ALL_HOURS);
        for (int mirror : new int[] {-1, 2, 40, LEAST, MOST}) {
            due.is("power(" + mirror + ", 8)", x.power(mirror, 8), NONE);
        }
        for (int hour : Fields.WRONG_HOURS) {
            due.is("power(0, " + hour + ")", x.power(0, hour), NONE);
        }
        due.is("power(1, 23)", x.power(1, 23), 100);
    }

    private static void stowedOrNot(Due due) {
        MirrorTower x = new MirrorTower();
        x.wind(8, 51);
        due.is("stowed(8) without mirrors", x.stowed(8), 1);
        due.is("stowed(9)", x.stowed(9), 0);
        due.is("stowed(23)", x.stowed(23), 0);
    }

    private static void stowedNone(Due due) {
        MirrorTower x = new MirrorTower();
        x.wind(0, 99);
        x.wind(23, 99);
        for (int hour : Fields.WRONG_HOURS) {
            due.is("stowed(" + hour + ")", x.stowed(hour), NONE);
        }
    }

    private static void soilOfEach(Due due) {
        soils(due, stairs(), 5, 4, 3, 2, 1);
    }

    private static void soilNone(Due due) {
        MirrorTower x = Fields.of(3);
        for (int mirror : new int[] {-1, 3, 39, 40, LEAST, MOST}) {
            due.is("soil(" + mirror + ")", x.soil(mirror), NONE);
        }
        due.is("soil(2)", x.soil(2), 0);
        due.is("soil(0) without mirrors", new MirrorTower().soil(0), NONE);
    }

    private static void washRange(Due due) {
        MirrorTower x = Fields.of(40);
        x.step(false);
        due.is(x, "wash(0)", x.wash(0), NONE, 2);
        due.is(x, "wash(1)", x.wash(1), 1, 0);
        due.is(x, "wash(41)", x.wash(41), NONE, 2);
        due.is(x, "wash(39)", x.wash(39), 39, 0);
        x.step(false);
        due.is(x, "wash(40)", x.wash(40), 40, 0);
        due.is("count(5)", x.count(5), 0);
    }

    private static void washAll(Due due) {
        MirrorTower x = Fields.of(3);
        x.step(false);
        due.is(x, "wash(40) of three", x.wash(40), 3, 0);
        x.step(false);
        due.is(x, "wash(4) of three", x.wash(4), 3, 0);
        x.step(false);
        due.is(x, "wash(3) of three", x.wash(3), 3, 0);
        due.is("count(5)", x.count(5), 0);
        MirrorTower none = new MirrorTower();
        due.is(none, "wash(1) without mirrors", none.wash(1), 0, 0);
        due.is(none, "wash(40) without mirrors", none.wash(40), 0, 0);
    }

    private static void washTells(Due due) {
        MirrorTower x = stairs();
        due.is("wash(4)", x.wash(4), 14);
        due.is("wash(4), only 1 was left", x.wash(4), 1);
        due.is("wash(4), all are clean", x.wash(4), 0);
    }

    private static void washRefused(Due due) {
        MirrorTower x = stairs();
        for (int many : new int[] {0, -1, 41, LEAST, MOST}) {
            x.dust(1);
            due.is(x, "wash(" + many + ")", x.wash(many), NONE, 2);
        }
        soils(due, x, 5, 4, 3, 2, 1);
    }
}
