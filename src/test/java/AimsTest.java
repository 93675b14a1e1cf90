/** Promises 13 to 16: aims, what is kept of them, and the best that few could do. */
public final class AimsTest {
    private static final int NONE = MirrorTower.NONE;
    private static final Due due = new Due("AimsTest");

    public static void main(String[] args) {
        aheadOfAny();
        spread();
        firstLimits();
        tooMuchForAll();
        powerless();
        kept();
        best();
        bestOfSeven();
        due.end();
    }

    /** Mirrors that neither shade nor block one another, each clean: 100 at height 9. */
    private static MirrorTower row(int many) {
        MirrorTower x = new MirrorTower();
        for (int i = 0; i < many; i++) {
            x.mirror(i, 14);
        }
        x.sun(12, 0, 1, 9);
        x.dust(0);
        return x;
    }

    private static void limits(MirrorTower x, int a, int b, int c, int d) {
        x.limit(0, a);
        x.limit(1, b);
        x.limit(2, c);
        x.limit(3, d);
    }

    private static void faces(String when, MirrorTower x, int a, int b, int c, int d) {
        int[] want = {a, b, c, d};
        for (int cell = 0; cell < 4; cell++) {
            due.is("face(" + cell + ") " + when, x.face(cell), want[cell]);
        }
    }

    private static void aheadOfAny() {
        MirrorTower x = row(1);
        due.is("aimed(0) ahead of any", x.aimed(0), NONE);
        faces("ahead of any", x, 0, 0, 0, 0);
        due.is(x, "aim(24)", x.aim(24), NONE, 2);
        due.is("aimed(0) behind a refused aim", x.aimed(0), NONE);
        due.is(x, "best(24)", x.best(24), NONE, 2);
        due.is(x, "best(12)", x.best(12), 100, 0);
        due.is(x, "aim(-1)", x.aim(-1), NONE, 2);
        due.is(x, "best(-1)", x.best(-1), NONE, 2);
        due.is("aimed(0): best() tells no aims", x.aimed(0), NONE);
        due.is(x, "aim(12)", x.aim(12), 100, 0);
        due.is("face(4)", x.face(4), NONE);
        due.is("face(-1)", x.face(-1), NONE);
        due.is("aimed(-1)", x.aimed(-1), NONE);
        due.is("aimed(1)", x.aimed(1), NONE);
        MirrorTower none = new MirrorTower();
        due.is(none, "aim(0) without mirrors", none.aim(0), 0, 0);
        due.is(none, "best(0) without mirrors", none.best(0), 0, 0);
        none.mirror(0, 0);
        due.is("aimed(0), come since", none.aimed(0), NONE);
    }

    private static void spread() {
        MirrorTower x = row(6);
        due.is("aim, all limits 500", x.aim(12), 600);
        int[] cells = {0, 1, 2, 3, 0, 1};
        for (int i = 0; i < 6; i++) {
            due.is("aimed(" + i + ")", x.aimed(i), cells[i]);
        }
        faces("of six", x, 200, 200, 100, 100);
        x.dust(3);
        x.step(false);
        x.wash(1);
        // Now mirror 0 has 100 and all others 97.
        limits(x, 100, 97, 100, 50);
        due.is("aim by power, then by number", x.aim(12), 294);
        due.is("aimed(0), the least cell of as much", x.aimed(0), 0);
        due.is("aimed(1), the most left", x.aimed(1), 2);
        due.is("aimed(2), just as much as is left", x.aimed(2), 1);
        due.is("aimed(3), more than is left", x.aimed(3), -2);
        faces("within limits", x, 100, 97, 97, 0);
    }

    /** In each cell alone 500 just fit, and 420 with 81 more do not. */
    private static void firstLimits() {
        for (int cell = 0; cell < 4; cell++) {
            MirrorTower even = row(6);
            MirrorTower odd = new MirrorTower();
            odd.sun(12, 0, 1, 9);
            odd.dust(3);
            odd.mirror(0, 14);
            odd.step(false);
            odd.dust(16);
            for (int i = 1; i < 6; i++) {
                odd.mirror(i, 14);
            }
            odd.step(false);
            for (int other = 0; other < 4; other++) {
                if (other != cell) {
                    even.limit(other, 0);
                    odd.limit(other, 0);
                }
            }
            due.is("aim of 100 each at the first limit of cell " + cell, even.aim(12), 500);
            due.is("aim of 84 each and 81 at that of cell " + cell, odd.aim(12), 420);
        }
    }

    private static void tooMuchForAll() {
        MirrorTower x = new MirrorTower();
        x.mirror(7, 1);
        x.mirror(7, 2);
        x.mirror(0, 5);
        x.sun(3, 1, 0, 9);
        limits(x, 99, 50, 99, 98);
        due.is("aim, only the lesser one fits", x.aim(3), 50);
        due.is("aimed(0)", x.aimed(0), -2);
        due.is("aimed(2)", x.aimed(2), -2);
        due.is("aimed(1) at the cell with the most left", x.aimed(1), 0);
        faces("of the lesser one", x, 50, 0, 0, 0);
    }

    private static void powerless() {
        MirrorTower x = row(2);
        limits(x, 0, 0, 0, 0);
        due.is("aim at limits of 0", x.aim(12), 0);
        due.is("aimed(0) at none", x.aimed(0), -2);
        due.is("aim without sun", x.aim(13), 0);
        due.is("aimed(0): 0 is no more than what is left", x.aimed(0), 0);
        due.is("aimed(1)", x.aimed(1), 0);
        limits(x, 500, 500, 501, 500);
        x.wind(13, 60);
        due.is("aim in a stow", x.aim(12), 0);
        due.is("aimed(1) in a stow", x.aimed(1), 2);
        faces("in a stow", x, 0, 0, 0, 0);
    }

    private static void kept() {
        MirrorTower x = row(3);
        x.aim(12);
        x.mirror(9, 9);
        due.is("aimed(3), come since", x.aimed(3), NONE);
        due.is("aimed(2)", x.aimed(2), 2);
        limits(x, 1, 1, 1, 1);
        x.aim(30);
        x.best(12);
        x.comes(12);
        x.plan();
        x.step(false);
        due.is("aimed(0) as it was", x.aimed(0), 0);
        faces("as it was", x, 100, 100, 100, 0);
        due.is("aimed(3), still come since", x.aimed(3), NONE);
        x.aim(12);
        due.is("aimed(3)", x.aimed(3), -2);
        due.is("aimed(0)", x.aimed(0), -2);
        faces("at none", x, 0, 0, 0, 0);
    }

    private static void best() {
        MirrorTower x = new MirrorTower();
        // Powers 60, 80 and 100: the greedy aims miss what the best finds.
        x.dust(20);
        x.mirror(0, 5);
        x.step(false);
        x.mirror(3, 5);
        x.step(false);
        x.mirror(14, 12);
        x.sun(12, 0, 1, 9);
        due.is("power(0)", x.power(0, 12), 60);
        due.is("power(1)", x.power(1, 12), 80);
        due.is("power(2)", x.power(2, 12), 100);
        limits(x, 140, 100, 0, 0);
        due.is("aim, greedy", x.aim(12), 180);
        due.is("best", x.best(12), 240);
        limits(x, 0, 0, 0, 99);
        due.is("best of one cell", x.best(12), 80);
        limits(x, 59, 59, 59, 59);
        due.is("best, none fits", x.best(12), 0);
        limits(x, 0, 60, 0, 60);
        due.is("best, one of them fits twice over", x.best(12), 60);
        limits(x, 60, 80, 100, 0);
        due.is("best, each just fits", x.best(12), 240);
        due.is("best without sun", x.best(13), 0);
    }

    private static void bestOfSeven() {
        MirrorTower x = row(9);
        due.is("aim of nine", x.aim(12), 900);
        due.is("best of the first seven", x.best(12), 700);
        limits(x, 250, 199, 150, 99);
        due.is("best of seven in four cells", x.best(12), 400);
        limits(x, 0, 10000, 0, 0);
        due.is("best of seven in one cell", x.best(12), 700);
        MirrorTower y = row(8);
        y.sun(12, 0, 1, 9);
        limits(y, 90, 0, 0, 0);
        y.dust(10);
        y.step(false);
        y.wash(7);
        due.is("best: the eighth alone would fit", y.best(12), 0);
        due.is("aim: the eighth does fit", y.aim(12), 90);
        due.is("aimed(7)", y.aimed(7), 0);
    }
}
