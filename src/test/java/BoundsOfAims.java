/** Term III and promises 13 to 16: the order of aims, limits, what is kept, and the best of few. */
final class BoundsOfAims {
    private static final int NONE = MirrorTower.NONE;
    private static final int AT_NONE = -2;
    private static final int LEAST = Integer.MIN_VALUE;
    private static final int MOST = Integer.MAX_VALUE;
    /** The hour with sun. */
    private static final int NOON = 12;

    private BoundsOfAims() { }

    static void all(Sentences doc) {
        aims(doc);
        best(doc);
        promises(doc);
    }

    private static void aims(Sentences doc) {
        doc.noBound("III", "AIMS of an HOUR");
        doc.test("III", "MIRRORS in order of POWER, greatest first", BoundsOfAims::greatestFirst);
        doc.test("III", "then by number", BoundsOfAims::thenByNumber);
        doc.test("III", "each at the FACE cell with the most left of its LIMIT",
                BoundsOfAims::mostLeft);
        doc.test("III", "(0 .. 10,000", BoundsOfAims::limitRange);
        doc.test("III", "500 at first", BoundsOfAims::firstLimit);
        doc.test("III", "of as much the least cell", BoundsOfAims::leastCell);
        doc.test("III", "if its POWER is no more than what is left", BoundsOfAims::noMoreThanLeft);
        doc.test("III", "else at none", BoundsOfAims::elseAtNone);
        doc.test("III", "HEAT: POWERS of those that have an aim together", BoundsOfAims::heat);
    }

    private static void best(Sentences doc) {
        doc.test("III", "BEST, of the first 7 of that order", BoundsOfAims::firstSeven);
        doc.test("III", "the most HEAT that any aims of theirs have within the LIMITS",
                BoundsOfAims::mostHeat);
    }

    private static void promises(Sentences doc) {
        doc.test("13", "AIMS of an HOUR, by SOIL as it is: the HEAT", BoundsOfAims::aimBySoilNow);
        doc.test("13", "NONE (2)", BoundsOfAims::aimRefused);
        doc.test("14", "The FACE cell at which a MIRROR aims by the latest aim() that told a number",
                BoundsOfAims::latestAim);
        doc.test("14", "-2 at none", BoundsOfAims::aimedAtNone);
        doc.test("14", "NONE (also of one that came since)", BoundsOfAims::aimedNone);
        doc.test("15", "What the POWERS at a FACE cell are together by it", BoundsOfAims::faceSums);
        doc.test("15", "0 ahead of any", BoundsOfAims::faceAheadOfAny);
        doc.test("15", "NONE", BoundsOfAims::faceNone);
        doc.test("16", "BEST of an HOUR, by SOIL as it is", BoundsOfAims::bestBySoilNow);
        doc.test("16", "NONE (2)", BoundsOfAims::bestRefused);
    }

    /**
     * Mirrors with these powers at noon, of 10 to 100, that rise by number: those that came first
     * have the most soil.
     */
    private static MirrorTower withPowers(int... powers) {
        MirrorTower x = new MirrorTower();
        x.sun(NOON, 0, 1, 9);
        for (int i = 0; i < powers.length; i++) {
            Fields.addBright(x, i, i + 1);
            int next = i + 1 < powers.length ? powers[i + 1] : 100;
            soilUpBy(x, next - powers[i]);
        }
        x.dust(0);
        return x;
    }

    private static void soilUpBy(MirrorTower x, int more) {
        for (int left = more; left > 0; left -= 20) {
            x.dust(Math.min(20, left));
            x.step(false);
        }
    }

    private static void aimsOf(Due due, MirrorTower x, int... cells) {
        for (int i = 0; i < cells.length; i++) {
            due.is("aimed(" + i + ")", x.aimed(i), cells[i]);
        }
    }

    private static void faces(Due due, MirrorTower x, int... powers) {
        for (int cell = 0; cell < 4; cell++) {
            due.is("face(" + cell + ")", x.face(cell), powers[cell]);
        }
    }

    private static void greatestFirst(Due due) {
        MirrorTower x = withPowers(60, 80, 100);
        int[] powers = {60, 80, 100};
        for (int i = 0; i < 3; i++) {
            due.is("power(" + i + ")", x.power(i, NOON), powers[i]);
        }
        Fields.limits(x, 0, 100, 0, 0);
        due.is("aim, room for the greatest alone", x.aim(NOON), 100);
        aimsOf(due, x, AT_NONE, AT_NONE, 1);
        Fields.limits(x, 500, 500, 500, 500);
        due.is("aim, room for all", x.aim(NOON), 240);
        aimsOf(due, x, 2, 1, 0);
    }

    private static void thenByNumber(Due due) {
        MirrorTower x = withPowers(90, 100, 100, 100);
        Fields.limits(x, 0, 200, 0, 0);
        due.is("aim, room for two of three alike", x.aim(NOON), 200);
        aimsOf(due, x, AT_NONE, 1, 1, AT_NONE);
        Fields.limits(x, 403, 402, 401, 400);
        x.aim(NOON);
        aimsOf(due, x, 3, 0, 1, 2);
    }

    private static void mostLeft(Due due) {
        MirrorTower x = Fields.bright(5, NOON);
        Fields.limits(x, 100, 301, 200, 50);
        due.is("aim", x.aim(NOON), 500);
        // 301, then 201, then 200, then 101 of cell 1, and 100 of cell 0 ahead of cell 2.
        aimsOf(due, x, 1, 1, 2, 1, 0);
        faces(due, x, 100, 300, 100, 0);
    }

    private static void limitRange(Due due) {
        MirrorTower x = Fields.bright(40, NOON);
        for (int cell = 0; cell < 4; cell++) {
            due.is(x, "limit(" + cell + ", -1)", x.limit(cell, -1), false, 2);
            due.is(x, "limit(" + cell + ", 0)", x.limit(cell, 0), true, 0);
            due.is(x, "limit(" + cell + ", 10001)", x.limit(cell, 10001), false, 2);
            due.is(x, "limit(" + cell + ", most)", x.limit(cell, MOST), false, 2);
            due.is(x, "limit(" + cell + ", least)", x.limit(cell, LEAST), false, 2);
        }
        due.is("aim at limits of 0", x.aim(NOON), 0);
        due.is("best at limits of 0", x.best(NOON), 0);
        due.is(x, "limit(2, 10000)", x.limit(2, 10000), true, 0);
        due.is("aim of forty in one cell", x.aim(NOON), 4000);
        faces(due, x, 0, 0, 4000, 0);
    }

    /** In each cell alone five of 100 just fit; five of 84 and one of 81 are one too much. */
    private static void firstLimit(Due due) {
        for (int cell = 0; cell < 4; cell++) {
            MirrorTower even = Fields.bright(6, NOON);
            MirrorTower odd = withPowers(81, 84, 84, 84, 84, 84);
            for (int other = 0; other < 4; other++) {
                if (other != cell) {
                    even.limit(other, 0);
                    odd.limit(other, 0);
                }
            }
            due.is("aim of 100 each at cell " + cell, even.aim(NOON), 500);
            aimsOf(due, even, cell, cell, cell, cell, cell, AT_NONE);
            due.is("aim of 84 each and 81 at cell " + cell, odd.aim(NOON), 420);
            aimsOf(due, odd, AT_NONE, cell, cell, cell, cell, cell);
        }
    }

    private static void leastCell(Due due) {
        MirrorTower x = Fields.bright(9, NOON);
        due.is("aim", x.aim(NOON), 900);
        aimsOf(due, x, 0, 1, 2, 3, 0, 1, 2, 3, 0);
        Fields.limits(x, 400, 500, 499, 500);
        x.aim(NOON);
        // 500 of cell 1 and of 3, 499 of cell 2, then 400 of cells 0, 1 and 3, and 399 of cell 2.
        aimsOf(due, x, 1, 3, 2, 0, 1, 3, 2);
    }

    private static void noMoreThanLeft(Due due) {
        MirrorTower x = Fields.bright(2, NOON);
        Fields.limits(x, 0, 0, 100, 0);
        due.is("aim, just as much is left", x.aim(NOON), 100);
        aimsOf(due, x, 2, AT_NONE);
        Fields.limits(x, 0, 0, 99, 0);
        due.is("aim, one less is left", x.aim(NOON), 0);
        aimsOf(due, x, AT_NONE, AT_NONE);
        Fields.limits(x, 0, 0, 200, 0);
        due.is("aim, just as much is left for both", x.aim(NOON), 200);
        aimsOf(due, x, 2, 2);
        Fields.limits(x, 0, 0, 199, 0);
        due.is("aim, one less is left for both", x.aim(NOON), 100);
        aimsOf(due, x, 2, AT_NONE);
        Fields.limits(x, 0, 0, 0, 0);
        due.is("aim without sun at limits of 0", x.aim(NOON + 1), 0);
        aimsOf(due, x, 0, 0);
    }

    private static void elseAtNone(Due due) {
        MirrorTower x = withPowers(50, 100);
        Fields.limits(x, 40, 99, 60, 20);
        due.is("aim: a lesser one may still fit", x.aim(NOON), 50);
        aimsOf(due, x, 1, AT_NONE);
        faces(due, x, 0, 50, 0, 0);
    }

    private static void heat(Due due) {
        MirrorTower x = withPowers(50, 70, 100);
        Fields.limits(x, 100, 60, 0, 0);
        due.is("aim of two of three", x.aim(NOON), 150);
        faces(due, x, 100, 50, 0, 0);
        Fields.limits(x, 10, 20, 30, 40);
        due.is("aim of none", x.aim(NOON), 0);
        Fields.limits(x, 500, 500, 500, 500);
        due.is("aim of all", x.aim(NOON), 220);
        MirrorTower full = Fields.bright(40, NOON);
        due.is("aim of twenty that fill the first limits", full.aim(NOON), 2000);
        faces(due, full, 500, 500, 500, 500);
    }

    private static void firstSeven(Due due) {
        for (int mirrors = 0; mirrors <= 9; mirrors++) {
            MirrorTower x = Fields.bright(mirrors, NOON);
            due.is("best of " + mirrors, x.best(NOON), 100 * Math.min(7, mirrors));
        }
        due.is("best of forty", Fields.bright(40, NOON).best(NOON), 700);
        MirrorTower seventh = withPowers(50, 100, 100, 100, 100, 100, 100);
        Fields.limits(seventh, 0, 0, 0, 99);
        due.is("best: the seventh in order, number 0, fits", seventh.best(NOON), 50);
        MirrorTower eighth = withPowers(50, 100, 100, 100, 100, 100, 100, 100);
        Fields.limits(eighth, 0, 0, 0, 99);
        due.is("best: the eighth in order isn't looked at", eighth.best(NOON), 0);
        due.is("aim: it is", eighth.aim(NOON), 50);
    }

    private static void mostHeat(Due due) {
        MirrorTower x = withPowers(60, 80, 100);
        Fields.limits(x, 140, 100, 0, 0);
        due.is("aim in order", x.aim(NOON), 180);
        due.is("best: 60 and 80 at one, 100 at the other", x.best(NOON), 240);
        Fields.limits(x, 139, 100, 0, 0);
        due.is("best, one less in the one", x.best(NOON), 180);
        Fields.limits(x, 140, 99, 0, 0);
        due.is("best, one less in the other", x.best(NOON), 180);
        Fields.limits(x, 0, 0, 0, 240);
        due.is("best, all just fit one cell", x.best(NOON), 240);
        Fields.limits(x, 0, 0, 0, 239);
        due.is("best, one less", x.best(NOON), 180);
        Fields.limits(x, 59, 59, 59, 59);
        due.is("best, none fits", x.best(NOON), 0);
        Fields.limits(x, 0, 60, 80, 100);
        due.is("best, each in a cell of its own", x.best(NOON), 240);
        Fields.limits(x, 0, 0, 0, 0);
        due.is("best, no limits", x.best(NOON), 0);
        due.is("best without sun", x.best(NOON + 1), 0);
    }

    private static void aimBySoilNow(Due due) {
        MirrorTower x = Fields.bright(2, NOON);
        x.dust(10);
        due.is(x, "aim(12): soil doesn't grow till then", x.aim(NOON), 200, 0);
        x.step(false);
        due.is("aim(12)", x.aim(NOON), 180);
        x.wash(1);
        due.is("aim(12)", x.aim(NOON), 190);
        Fields.waitFor(x, 15);
        due.is("aim(12), an hour gone by", x.aim(NOON), 20);
    }

    private static void aimRefused(Due due) {
        MirrorTower x = Fields.bright(2, NOON);
        x.aim(NOON);
        for (int hour : Fields.WRONG_HOURS) {
            x.dust(0);
            due.is(x, "aim(" + hour + ")", x.aim(hour), NONE, 2);
            aimsOf(due, x, 0, 1);
            faces(due, x, 100, 100, 0, 0);
        }
    }

    private static void latestAim(Due due) {
        MirrorTower x = Fields.bright(2, NOON);
        due.is("aimed(0) ahead of any", x.aimed(0), NONE);
        x.aim(24);
        due.is("aimed(0) behind one that told none", x.aimed(0), NONE);
        x.aim(NOON);
        aimsOf(due, x, 0, 1);
        Fields.limits(x, 0, 0, 0, 500);
        x.best(NOON);
        x.comes(NOON);
        x.plan();
        x.step(false);
        x.aim(-1);
        aimsOf(due, x, 0, 1);
        x.aim(NOON);
        aimsOf(due, x, 3, 3);
    }

    private static void aimedAtNone(Due due) {
        MirrorTower x = Fields.bright(2, NOON);
        Fields.limits(x, 99, 99, 99, 99);
        x.aim(NOON);
        aimsOf(due, x, AT_NONE, AT_NONE);
        Fields.limits(x, 0, 100, 0, 0);
        x.aim(NOON);
        aimsOf(due, x, 1, AT_NONE);
    }

    private static void aimedNone(Due due) {
        MirrorTower x = Fields.bright(2, NOON);
        x.aim(NOON);
        for (int mirror : new int[] {-1, 2, 39, 40, LEAST, MOST}) {
            due.is("aimed(" + mirror + ")", x.aimed(mirror), NONE);
        }
        Fields.addBright(x, 2, 3);
        due.is("aimed(2), come since", x.aimed(2), NONE);
        due.is("aimed(1), there already", x.aimed(1), 1);
        x.aim(24);
        due.is("aimed(2) behind a refused aim", x.aimed(2), NONE);
        x.aim(NOON);
        due.is("aimed(2)", x.aimed(2), 2);
        MirrorTower none = new MirrorTower();
        none.aim(NOON);
        none.mirror(0, 1);
        due.is("aimed(0), come since an aim of none", none.aimed(0), NONE);
    }

    private static void faceSums(Due due) {
        MirrorTower x = withPowers(60, 80, 100);
        Fields.limits(x, 0, 200, 150, 0);
        due.is("aim", x.aim(NOON), 240);
        faces(due, x, 0, 160, 80, 0);
        Fields.limits(x, 1, 1, 1, 1);
        Fields.addBright(x, 3, 4);
        x.aim(-1);
        faces(due, x, 0, 160, 80, 0);
        x.aim(NOON);
        faces(due, x, 0, 0, 0, 0);
    }

    private static void faceAheadOfAny(Due due) {
        MirrorTower x = Fields.bright(3, NOON);
        faces(due, x, 0, 0, 0, 0);
        x.best(NOON);
        x.comes(NOON);
        x.plan();
        x.aim(24);
        faces(due, x, 0, 0, 0, 0);
    }

    private static void faceNone(Due due) {
        MirrorTower x = Fields.bright(3, NOON);
        x.aim(NOON);
        for (int cell : new int[] {-1, 4, LEAST, MOST}) {
            due.is("face(" + cell + ")", x.face(cell), NONE);
        }
    }

    private static void bestBySoilNow(Due due) {
        MirrorTower x = Fields.bright(2, NOON);
        x.dust(10);
        due.is(x, "best(12): soil doesn't grow till then", x.best(NOON), 200, 0);
        x.step(false);
        due.is("best(12)", x.best(NOON), 180);
        x.wash(1);
        due.is("best(12)", x.best(NOON), 190);
    }

    private static void bestRefused(Due due) {
        MirrorTower x = Fields.bright(2, Fields.ALL_HOURS);
        for (int hour : Fields.WRONG_HOURS) {
            x.dust(0);
            due.is(x, "best(" + hour + ")", x.best(hour), NONE, 2);
        }
        due.is(x, "best(0)", x.best(0), 200, 0);
        due.is(x, "best(23)", x.best(23), 200, 0);
    }
}
