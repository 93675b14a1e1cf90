/** Promises 1 to 12: the new object, what is told to it, shade, power, stows, soil and washing. */
public final class LightTest {
    private static final int NONE = MirrorTower.NONE;
    private static final int[] WRONG_HOURS = {-1, 24, Integer.MIN_VALUE, Integer.MAX_VALUE};
    private static final Due due = new Due("LightTest");

    public static void main(String[] args) {
        newObject();
        mirrors();
        tellings();
        shade();
        block();
        power();
        bothShadeAndBlock();
        stows();
        soil();
        wash();
        due.end();
    }

    private static void newObject() {
        MirrorTower x = new MirrorTower();
        for (int what = 0; what <= 5; what++) {
            due.is("count(" + what + ") of a new one", x.count(what), 0);
        }
        due.is("trouble() of a new one", x.trouble(), 0);
        due.is("earned() of a new one", x.earned(), 0);
        due.is("agree() of a new one", x.agree(), 1);
        due.is("unsure() of a new one", x.unsure(), 0);
        due.is("plan() of a new one", x.plan(), 0);
        x.mirror(7, 1);
        for (int hour = 0; hour < 24; hour++) {
            due.is("power(0, " + hour + ") without sun", x.power(0, hour), 0);
            due.is("stowed(" + hour + ") without wind", x.stowed(hour), 0);
        }
    }

    private static void mirrors() {
        MirrorTower x = new MirrorTower();
        due.is(x, "mirror(0, 0)", x.mirror(0, 0), 0, 0);
        due.is(x, "mirror(14, 14)", x.mirror(14, 14), 1, 0);
        int[][] outside = {{-1, 3}, {15, 3}, {3, -1}, {3, 15}, {Integer.MIN_VALUE, 0},
                {0, Integer.MAX_VALUE}};
        for (int[] place : outside) {
            due.is(x, "mirror outside", x.mirror(place[0], place[1]), NONE, 2);
        }
        due.is(x, "mirror(7, 0), the tower's", x.mirror(7, 0), NONE, 4);
        due.is(x, "mirror(14, 14) again", x.mirror(14, 14), NONE, 4);
        due.is(x, "mirror(0, 7)", x.mirror(0, 7), 2, 0);
        for (int i = 3; i < 40; i++) {
            due.is(x, "mirror " + i, x.mirror(i % 15, 1 + i / 15), i, 0);
        }
        due.is(x, "mirror, the 41st", x.mirror(5, 10), NONE, 3);
        due.is(x, "mirror, the 41st, at a taken place", x.mirror(0, 0), NONE, 4);
        due.is(x, "mirror, the 41st, at the tower's", x.mirror(7, 0), NONE, 4);
        due.is(x, "mirror, the 41st, outside", x.mirror(15, 0), NONE, 2);
        due.is("count(0)", x.count(0), 40);
    }

    private static void tellings() {
        MirrorTower x = new MirrorTower();
        for (int hour : WRONG_HOURS) {
            due.is(x, "sun of hour " + hour, x.sun(hour, 1, 1, 5), false, 2);
            due.is(x, "wind of hour " + hour, x.wind(hour, 5), false, 2);
            due.is(x, "price of hour " + hour, x.price(hour, 5), false, 2);
        }
        due.is(x, "sun(0, -2, 2, 9)", x.sun(0, -2, 2, 9), true, 0);
        due.is(x, "sun(0, 3, 0, 5)", x.sun(0, 3, 0, 5), false, 2);
        due.is(x, "sun(23, 2, -2, 0)", x.sun(23, 2, -2, 0), true, 0);
        due.is(x, "sun(0, 0, -3, 5)", x.sun(0, 0, -3, 5), false, 2);
        due.is(x, "sun(0, -3, 0, 5)", x.sun(0, -3, 0, 5), false, 2);
        due.is(x, "sun(0, 0, 3, 5)", x.sun(0, 0, 3, 5), false, 2);
        due.is(x, "sun(0, 0, 0, 5)", x.sun(0, 0, 0, 5), false, 2);
        due.is(x, "sun(0, 0, 0, 0)", x.sun(0, 0, 0, 0), false, 2);
        due.is(x, "sun(0, 1, 0, 10)", x.sun(0, 1, 0, 10), false, 2);
        due.is(x, "sun(0, 1, 0, -1)", x.sun(0, 1, 0, -1), false, 2);
        due.is(x, "sun(0, 0, 1, 1)", x.sun(0, 0, 1, 1), true, 0);
        due.is(x, "wind(0, 100)", x.wind(0, 100), false, 2);
        due.is(x, "wind(0, 99)", x.wind(0, 99), true, 0);
        due.is(x, "wind(0, -1)", x.wind(0, -1), false, 2);
        due.is("stowed(0) by the wind that stood", x.stowed(0), 1);
        due.is(x, "wind(23, 0)", x.wind(23, 0), true, 0);
        due.is(x, "price(0, 1000)", x.price(0, 1000), false, 2);
        due.is(x, "price(0, 999)", x.price(0, 999), true, 0);
        due.is(x, "price(23, -1)", x.price(23, -1), false, 2);
        due.is(x, "price(23, 0)", x.price(23, 0), true, 0);
        due.is(x, "dust(21)", x.dust(21), false, 2);
        due.is(x, "dust(20)", x.dust(20), true, 0);
        due.is(x, "dust(-1)", x.dust(-1), false, 2);
        due.is(x, "dust(0)", x.dust(0), true, 0);
        limits(x);
    }

    private static void limits(MirrorTower x) {
        due.is(x, "limit(4, 5)", x.limit(4, 5), false, 1);
        due.is(x, "limit(0, 10000)", x.limit(0, 10000), true, 0);
        due.is(x, "limit(-1, 5)", x.limit(-1, 5), false, 1);
        due.is(x, "limit(3, 0)", x.limit(3, 0), true, 0);
        due.is(x, "limit(0, 10001)", x.limit(0, 10001), false, 2);
        due.is(x, "limit(0, -1)", x.limit(0, -1), false, 2);
        due.is(x, "limit(4, -1): the cell comes first", x.limit(4, -1), false, 1);
    }

    private static void shade() {
        MirrorTower x = new MirrorTower();
        x.mirror(2, 12);
        x.mirror(3, 11);
        x.mirror(7, 7);
        x.mirror(11, 3);
        x.mirror(12, 2);
        due.is("shaded without sun", x.shaded(0, 5, false), 0);
        x.sun(5, 1, -1, 1);
        due.is("shaded by 9 steps", x.shaded(0, 5, false), 3);
        due.is("shaded, from which it shines", x.shaded(4, 5, false), 0);
        due.is("shaded, the edge ends it", x.shaded(3, 5, false), 1);
        x.sun(5, 1, -1, 2);
        due.is("shaded by 8 steps", x.shaded(0, 5, false), 2);
        due.is("shaded by 8 steps, the last", x.shaded(1, 5, false), 2);
        x.sun(5, 1, -1, 9);
        due.is("shaded by 1 step", x.shaded(0, 5, false), 1);
        due.is("shaded by 1 step, none there", x.shaded(1, 5, false), 0);
        x.sun(5, 2, -2, 1);
        due.is("shaded by double steps, the odd one left out", x.shaded(0, 5, false), 1);
        x.sun(5, 1, -1, 0);
        due.is("shaded at height 0", x.shaded(0, 5, false), 0);
        x.sun(5, -1, 1, 1);
        due.is("shaded from the other side", x.shaded(3, 5, false), 3);
        x.wind(5, 99);
        due.is("shaded in a stow", x.shaded(3, 5, false), 3);
        due.is("shaded in another hour", x.shaded(3, 6, false), 0);
        for (int hour : WRONG_HOURS) {
            due.is("shaded of hour " + hour, x.shaded(0, hour, false), NONE);
            due.is("blocked of hour " + hour, x.shaded(0, hour, true), NONE);
        }
        due.is("shaded(-1, 5, false)", x.shaded(-1, 5, false), NONE);
        due.is("shaded(5, 5, false)", x.shaded(5, 5, false), NONE);
        due.is("shaded(5, 5, true)", x.shaded(5, 5, true), NONE);
        due.is("the tower shades nobody", towerShades(), 0);
        shadeAtEdges();
    }

    private static void shadeAtEdges() {
        MirrorTower x = new MirrorTower();
        int[][] places = {{0, 7}, {14, 7}, {6, 0}, {6, 14}, {6, 7}};
        for (int[] place : places) {
            x.mirror(place[0], place[1]);
        }
        int[][] steps = {{-1, 0}, {1, 0}, {0, -1}, {0, 1}, {-2, 0}, {2, 0}, {0, -2}, {0, 2}};
        int[] middle = {1, 1, 1, 1, 1, 1, 0, 0};
        for (int i = 0; i < steps.length; i++) {
            x.sun(i, steps[i][0], steps[i][1], 1);
            due.is("shaded from the edge, step " + i, x.shaded(4, i, false), middle[i]);
        }
        int[] outwards = {0, 1, 2, 3};
        for (int i : outwards) {
            due.is("shaded from beyond the edge " + i, x.shaded(i, i, false), 0);
        }
    }

    private static int towerShades() {
        MirrorTower x = new MirrorTower();
        x.mirror(7, 1);
        x.sun(0, 0, -1, 1);
        return x.shaded(0, 0, false);
    }

    private static void block() {
        MirrorTower x = new MirrorTower();
        x.mirror(13, 12);
        x.mirror(8, 2);
        x.mirror(9, 4);
        x.mirror(9, 5);
        x.mirror(12, 10);
        x.mirror(6, 2);
        due.is("blocked by three on the line", x.shaded(0, 0, true), 3);
        due.is("blocked, the nearest", x.shaded(1, 0, true), 0);
        due.is("blocked by one that came ahead", x.shaded(2, 0, true), 1);
        due.is("blocked, off the line", x.shaded(3, 0, true), 0);
        due.is("blocked by two", x.shaded(4, 0, true), 2);
        due.is("blocked, mirrored", x.shaded(5, 0, true), 0);
        MirrorTower row = new MirrorTower();
        row.mirror(0, 0);
        row.mirror(6, 0);
        row.mirror(8, 0);
        row.mirror(14, 0);
        due.is("blocked in the tower's own row", row.shaded(0, 0, true), 1);
        due.is("blocked beside the tower", row.shaded(1, 0, true), 0);
        due.is("blocked, not from behind the tower", row.shaded(3, 0, true), 1);
        MirrorTower line = new MirrorTower();
        for (int y = 14; y > 0; y--) {
            line.mirror(7, y);
        }
        due.is("blocked by all thirteen", line.shaded(0, 23, true), 13);
    }

    private static void power() {
        MirrorTower x = new MirrorTower();
        x.mirror(0, 1);
        x.mirror(1, 1);
        x.mirror(2, 1);
        x.sun(4, 1, 0, 1);
        due.is("power at height 1", x.power(2, 4), 20);
        due.is("power, halved once", x.power(1, 4), 10);
        due.is("power, halved twice", x.power(0, 4), 5);
        x.sun(4, 1, 0, 9);
        due.is("power at height 9", x.power(2, 4), 100);
        x.step(false);
        due.is("power with soil", x.power(2, 4), 99);
        due.is("power, halved downwards", x.power(1, 4), 49);
        x.dust(20);
        x.step(false);
        x.sun(4, 1, 0, 1);
        due.is("power never below 0", x.power(2, 4), 0);
        due.is("power never below 0, halved", x.power(1, 4), 0);
        x.sun(4, 1, 0, 0);
        due.is("power at height 0", x.power(2, 4), 0);
        for (int hour : WRONG_HOURS) {
            due.is("power of hour " + hour, x.power(0, hour), NONE);
        }
        due.is("power(3, 4)", x.power(3, 4), NONE);
        due.is("power(-1, 4)", x.power(-1, 4), NONE);
    }

    /** The document is read so: one that both shades and blocks takes its half each time. */
    private static void bothShadeAndBlock() {
        MirrorTower x = new MirrorTower();
        x.mirror(7, 1);
        x.mirror(7, 2);
        x.sun(0, 0, -1, 9);
        due.is("shaded by the one ahead", x.shaded(1, 0, false), 1);
        due.is("blocked by the one ahead", x.shaded(1, 0, true), 1);
        due.is("power of one shaded and blocked by the same", x.power(1, 0), 25);
    }

    private static void stows() {
        MirrorTower x = new MirrorTower();
        x.mirror(0, 1);
        for (int hour = 0; hour < 24; hour++) {
            x.sun(hour, 1, 0, 9);
        }
        x.wind(10, 51);
        x.wind(0, 51);
        x.wind(15, 50);
        for (int hour = 0; hour < 24; hour++) {
            boolean still = hour == 0 || hour == 9 || hour == 10;
            due.is("stowed(" + hour + ")", x.stowed(hour), still ? 1 : 0);
            due.is("power in a stow, hour " + hour, x.power(0, hour), still ? 0 : 100);
        }
        x.wind(23, 99);
        due.is("stowed(23)", x.stowed(23), 1);
        due.is("stowed(22)", x.stowed(22), 1);
        for (int hour : WRONG_HOURS) {
            due.is("stowed(" + hour + ")", x.stowed(hour), NONE);
        }
    }

    private static void soil() {
        MirrorTower x = new MirrorTower();
        x.mirror(0, 1);
        x.step(false);
        x.mirror(1, 1);
        due.is("soil(0), dust is 1 at first", x.soil(0), 1);
        due.is("soil(1) of a new one", x.soil(1), 0);
        x.dust(20);
        for (int i = 0; i < 4; i++) {
            x.step(false);
        }
        due.is("soil(0)", x.soil(0), 81);
        due.is("soil(1)", x.soil(1), 80);
        x.step(false);
        due.is("soil(0), 90 at most", x.soil(0), 90);
        due.is("soil(1), 90 at most", x.soil(1), 90);
        due.is("count(5)", x.count(5), 180);
        x.dust(0);
        x.wash(1);
        x.step(false);
        due.is("soil(0) washed, no dust", x.soil(0), 0);
        due.is("soil(2)", x.soil(2), NONE);
        due.is("soil(-1)", x.soil(-1), NONE);
    }

    private static void wash() {
        MirrorTower x = new MirrorTower();
        due.is(x, "wash(41)", x.wash(41), NONE, 2);
        due.is(x, "wash(40) of none", x.wash(40), 0, 0);
        due.is(x, "wash(0)", x.wash(0), NONE, 2);
        due.is(x, "wash(-1)", x.wash(-1), NONE, 2);
        for (int i = 0; i < 4; i++) {
            x.mirror(i, 1);
            x.mirror(i, 2);
            x.step(false);
        }
        due.is("wash(1)", x.wash(1), 4);
        due.is("soil(0), the least number", x.soil(0), 0);
        due.is("soil(1)", x.soil(1), 4);
        due.is("wash(2)", x.wash(2), 7);
        due.is("soil(1)", x.soil(1), 0);
        due.is("soil(2)", x.soil(2), 0);
        due.is("soil(3)", x.soil(3), 3);
        due.is(x, "wash(8)", x.wash(8), 9, 0);
        due.is("count(5)", x.count(5), 0);
        due.is(x, "wash(1) of clean ones", x.wash(1), 0, 0);
    }
}
