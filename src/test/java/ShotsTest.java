/** Promises 22 to 26 and 28: shots, the sets that agree with them, and trouble. */
public final class ShotsTest {
    private static final int NONE = MirrorTower.NONE;
    private static final Due due = new Due("ShotsTest");

    public static void main(String[] args) {
        refusals();
        room();
        highBits();
        pairs();
        many();
        cameLater();
        trouble();
        due.end();
    }

    private static MirrorTower field(int mirrors) {
        MirrorTower x = new MirrorTower();
        for (int i = 0; i < mirrors; i++) {
            x.mirror(i % 15, 1 + i / 15);
        }
        return x;
    }

    private static void refusals() {
        MirrorTower x = field(3);
        due.is(x, "shot with no bits", x.shot(0, 0, 0), NONE, 4);
        due.is(x, "shot(7, 0, 3)", x.shot(7, 0, 3), 0, 0);
        due.is(x, "shot(7, 0, 4)", x.shot(7, 0, 4), NONE, 2);
        due.is(x, "shot(7, 0, -1)", x.shot(7, 0, -1), NONE, 2);
        due.is(x, "shot(8, 0, 0)", x.shot(8, 0, 0), NONE, 4);
        due.is(x, "shot(9, 0, 1)", x.shot(9, 0, 1), NONE, 4);
        due.is(x, "shot(0, 1, 0)", x.shot(0, 1, 0), NONE, 4);
        due.is(x, "shot(0, -1, 5)", x.shot(0, -1, 5), NONE, 4);
        due.is(x, "shot(-1, 0, 5)", x.shot(-1, 0, 5), NONE, 4);
        due.is(x, "shot(8, 0, 2): the hits come first", x.shot(8, 0, 2), NONE, 2);
        due.is(x, "shot(0, 0, 1): the hits come first", x.shot(0, 0, 1), NONE, 2);
        due.is(x, "shot(-1, -1, 41): hits are 40 at most", x.shot(-1, -1, 41), NONE, 2);
        due.is(x, "shot(-1, -1, 40)", x.shot(-1, -1, 40), NONE, 4);
        due.is("count(4)", x.count(4), 1);
        due.is("agree()", x.agree(), 1);
    }

    private static void room() {
        MirrorTower x = field(2);
        for (int i = 0; i < 12; i++) {
            due.is(x, "shot " + i, x.shot(i % 3 + 1, 0, 0), i, 0);
        }
        due.is(x, "shot, the 13th", x.shot(1, 0, 1), NONE, 3);
        due.is(x, "shot, the 13th, of none", x.shot(0, 0, 0), NONE, 4);
        due.is(x, "shot, the 13th, with wrong hits", x.shot(1, 0, 2), NONE, 2);
        due.is("count(4)", x.count(4), 12);
        due.is("agree()", x.agree(), 1);
        due.is("stuck(0)", x.stuck(0), 1);
        due.is("forget()", x.forget(), 12);
        due.is("trouble(): forget() can't be refused", x.trouble(), 2);
        due.is("count(4)", x.count(4), 0);
        due.is("forget() again", x.forget(), 0);
        due.is("agree() of no shots", x.agree(), 4);
        due.is(x, "shot behind forget()", x.shot(1, 0, 1), 0, 0);
        due.is("agree()", x.agree(), 2);
    }

    private static void highBits() {
        MirrorTower x = field(40);
        due.is("agree() of forty", x.agree(), 821);
        due.is("unsure() of forty", x.unsure(), 40);
        due.is(x, "shot of all", x.shot(-1, 255, 38), 0, 0);
        due.is("agree() of pairs", x.agree(), 780);
        due.is(x, "shot(0, 256, 0)", x.shot(0, 256, 0), NONE, 4);
        due.is(x, "shot(0, 128, 0)", x.shot(0, 128, 0), 1, 0);
        due.is("stuck(39)", x.stuck(39), 1);
        due.is("agree()", x.agree(), 39);
        due.is(x, "shot(least, 0, 0)", x.shot(Integer.MIN_VALUE, 0, 0), 2, 0);
        due.is("stuck(31)", x.stuck(31), 1);
        due.is("agree()", x.agree(), 1);
        due.is("unsure()", x.unsure(), 0);
        due.is("stuck(32)", x.stuck(32), 0);
        due.is("stuck(40)", x.stuck(40), NONE);
        due.is("stuck(-1)", x.stuck(-1), NONE);
        x.forget();
        due.is("shot of all, all hit", x.shot(-1, 255, 40), 0);
        due.is("agree()", x.agree(), 1);
        due.is("unsure()", x.unsure(), 0);
        due.is("stuck(39)", x.stuck(39), 0);
    }

    private static void pairs() {
        MirrorTower x = field(5);
        x.shot(0b00011, 0, 1);
        due.is("agree(): one of two, with one of three or none", x.agree(), 8);
        x.shot(0b01100, 0, 1);
        due.is("agree(): one of each two", x.agree(), 4);
        due.is("unsure()", x.unsure(), 4);
        due.is("stuck(4)", x.stuck(4), 0);
        x.shot(0b00101, 0, 1);
        due.is("agree()", x.agree(), 2);
        x.shot(0b00001, 0, 0);
        due.is("agree()", x.agree(), 1);
        due.is("stuck(0)", x.stuck(0), 1);
        due.is("stuck(1)", x.stuck(1), 0);
        due.is("stuck(2)", x.stuck(2), 0);
        due.is("stuck(3)", x.stuck(3), 1);
        due.is("unsure()", x.unsure(), 0);
        x.shot(0b01000, 0, 1);
        due.is("agree(), none", x.agree(), 0);
        for (int i = 0; i < 5; i++) {
            due.is("stuck(" + i + ") when no set agrees", x.stuck(i), 2);
        }
        due.is("unsure() when no set agrees", x.unsure(), 5);
    }

    private static void many() {
        for (int missed = 3; missed <= 10; missed++) {
            MirrorTower x = field(10);
            x.shot(0x3FF, 0, 10 - missed);
            due.is("agree() with " + missed + " missed", x.agree(), 0);
            x.shot(1, 0, 1);
            due.is("agree() with " + missed + " missed, and a shot more", x.agree(), 0);
        }
        MirrorTower z = field(5);
        z.shot(0b01111, 0, 0);
        z.shot(0b10000, 0, 1);
        due.is("agree() with 4 missed that must not count for the next shot", z.agree(), 0);
        MirrorTower y = field(6);
        y.shot(0x3F, 0, 4);
        due.is("agree() with 2 missed", y.agree(), 15);
        y.shot(0x3F, 0, 5);
        due.is("agree() with 2 missed, then 1", y.agree(), 0);
    }

    private static void cameLater() {
        MirrorTower x = field(2);
        x.shot(3, 0, 1);
        due.is("agree()", x.agree(), 2);
        x.mirror(10, 10);
        due.is("agree(): the new one may be stuck too", x.agree(), 4);
        due.is("stuck(2)", x.stuck(2), 2);
        due.is("unsure()", x.unsure(), 3);
        x.shot(4, 0, 1);
        due.is("unsure() first behind a shot", x.unsure(), 2);
        x.shot(1, 0, 1);
        due.is("stuck(1) first behind a shot", x.stuck(1), 1);
    }

    /** Calls that tell no trouble of their own leave that of the latest one that does. */
    private static void trouble() {
        MirrorTower x = field(1);
        x.limit(9, 9);
        x.shaded(9, 99, true);
        x.power(9, 99);
        x.stowed(99);
        x.soil(9);
        x.aimed(9);
        x.face(9);
        x.comes(99);
        x.plan();
        x.runs(99);
        x.earned();
        x.forget();
        x.agree();
        x.stuck(9);
        x.unsure();
        x.count(9);
        x.trouble();
        due.is("trouble() stays", x.trouble(), 1);
        x.step(false);
        due.is("trouble() behind a call that went well", x.trouble(), 0);
        x.stuck(9);
        due.is("trouble() stays 0", x.trouble(), 0);
    }
}
