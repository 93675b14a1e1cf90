/** Terms V and VI and promises 22 to 28: shots, the sets that agree, counts and trouble. */
final class BoundsOfShots {
    private static final int NONE = MirrorTower.NONE;
    private static final int LEAST = Integer.MIN_VALUE;
    private static final int MOST = Integer.MAX_VALUE;

    private BoundsOfShots() { }

    static void all(Sentences doc) {
        shots(doc);
        troubles(doc);
        shotAndForget(doc);
        whatIsKnown(doc);
    }

    private static void shots(Sentences doc) {
        doc.noBound("V", "SHOTS");
        doc.test("V", "some MIRRORS (as bits of 40) aim at one place", BoundsOfShots::bitsOfForty);
        doc.test("V", "all others away", BoundsOfShots::othersAway);
        doc.test("V", "so many hits are seen (0 .. 40)", BoundsOfShots::hitsRange);
        doc.test("V", "a STUCK one makes none, each other one does", BoundsOfShots::whoHits);
        doc.test("V", "AGREE: sets of STUCK MIRRORS of 0, 1 or 2", BoundsOfShots::twoAtMost);
        doc.test("V", "with which all SHOTS are so", BoundsOfShots::allShots);
        doc.test("V", "SURE: MIRRORS that are in all of these, or in none", BoundsOfShots::sure);
    }

    private static void troubles(Sentences doc) {
        doc.test("VI", "TROUBLE of the latest call that may be refused",
                BoundsOfShots::latestThatMayBe);
        doc.test("VI", "0 it wasn't", BoundsOfShots::itWasNot);
        doc.test("VI", "1 there is none such", BoundsOfShots::noneSuch);
        doc.test("VI", "2 a number", BoundsOfShots::aNumber);
        doc.test("VI", "3 no room", BoundsOfShots::noRoom);
        doc.test("VI", "4 not so (a place is taken, or the tower's", BoundsOfShots::placeNotSo);
        doc.test("VI", "a SHOT without MIRRORS that there are", BoundsOfShots::shotNotSo);
    }

    private static void shotAndForget(Sentences doc) {
        doc.test("22", "A SHOT of MIRRORS as bits (those from 0 to 31, and from 32 on)",
                BoundsOfShots::lowAndHigh);
        doc.test("22", "with so many hits: its number", BoundsOfShots::shotNumbers);
        doc.test("22", "NONE: 2 (hits: more than MIRRORS of it", BoundsOfShots::moreHits);
        doc.test("22", "below 0", BoundsOfShots::hitsBelow);
        doc.test("22", "4 (no MIRRORS", BoundsOfShots::shotOfNone);
        doc.test("22", "or such that there aren't)", BoundsOfShots::shotOfOthers);
        doc.test("22", "3", BoundsOfShots::shotsFull);
        doc.test("23", "No SHOTS: how many there were", BoundsOfShots::forget);
    }

    private static void whatIsKnown(Sentences doc) {
        doc.test("24", "How many sets AGREE", BoundsOfShots::agree);
        doc.test("25", "Whether a MIRROR is STUCK: 1 surely, 0 surely not, 2 it isn't SURE",
                BoundsOfShots::stuck);
        doc.test("25", "also if no set AGREES", BoundsOfShots::stuckByNoSet);
        doc.test("25", "NONE", BoundsOfShots::stuckNone);
        doc.test("26", "How many MIRRORS aren't SURE", BoundsOfShots::unsure);
        doc.test("27", "0 MIRRORS", BoundsOfShots::countMirrors);
        doc.test("27", "1 NOW", BoundsOfShots::countNow);
        doc.test("27", "2 units in the STORE", BoundsOfShots::countUnits);
        doc.test("27", "3 whether the turbine is warm (1)", BoundsOfShots::countWarm);
        doc.test("27", "4 SHOTS", BoundsOfShots::countShots);
        doc.test("27", "5 SOIL of all together", BoundsOfShots::countSoil);
        doc.test("27", "NONE for others", BoundsOfShots::countNone);
        doc.test("28", "TROUBLE", BoundsOfShots::troubleTold);
    }

    private static void stucks(Due due, MirrorTower x, int... want) {
        for (int i = 0; i < want.length; i++) {
            due.is("stuck(" + i + ")", x.stuck(i), want[i]);
        }
    }

    /** Each mirror by its own bit, in a field of forty. */
    private static void bitsOfForty(Due due) {
        MirrorTower x = Fields.of(40);
        for (int mirror = 0; mirror < 40; mirror++) {
            long bit = 1L << mirror;
            due.is(x, "shot of " + mirror, x.shot((int) bit, (int) (bit >>> 32), 0), 0, 0);
            due.is("stuck(" + mirror + ")", x.stuck(mirror), 1);
            due.is("unsure(): one more, any or none", x.unsure(), 39);
            x.forget();
        }
        for (int high : new int[] {256, 1 << 30, LEAST, -1}) {
            due.is(x, "shot(0, " + high + ", 0)", x.shot(0, high, 0), NONE, 4);
        }
        due.is(x, "shot(-1, 255, 40)", x.shot(-1, 255, 40), 0, 0);
    }

    private static void othersAway(Due due) {
        MirrorTower x = Fields.of(4);
        x.shot(0b0011, 0, 2);
        due.is("agree(): 2 and 3 make no hits there, stuck or not", x.agree(), 4);
        stucks(due, x, 0, 0, 2, 2);
        x.mirror(14, 14);
        due.is("agree(): one that came since wasn't there", x.agree(), 7);
        stucks(due, x, 0, 0, 2, 2, 2);
    }

    private static void hitsRange(Due due) {
        MirrorTower x = Fields.of(40);
        for (int hits = 0; hits <= 40; hits++) {
            due.is(x, "shot of forty with hits " + hits, x.shot(-1, 255, hits), 0, 0);
            x.forget();
        }
        for (int hits : new int[] {-1, 41, LEAST, MOST}) {
            due.is(x, "shot of forty with hits " + hits, x.shot(-1, 255, hits), NONE, 2);
        }
    }

    private static void whoHits(Due due) {
        MirrorTower x = Fields.of(3);
        x.shot(0b111, 0, 3);
        stucks(due, x, 0, 0, 0);
        x.forget();
        x.shot(0b111, 0, 2);
        due.is("agree(), one stuck of three", x.agree(), 3);
        x.forget();
        x.shot(0b111, 0, 1);
        due.is("agree(), two stuck of three", x.agree(), 3);
        x.shot(0b001, 0, 1);
        stucks(due, x, 0, 1, 1);
    }

    private static void twoAtMost(Due due) {
        int[] agreeing = {1, 4, 6, 0, 0};
        for (int missed = 0; missed <= 4; missed++) {
            MirrorTower x = Fields.of(4);
            x.shot(0b1111, 0, 4 - missed);
            due.is("agree() with " + missed + " missed of four", x.agree(), agreeing[missed]);
        }
        int[] ofEach = {1, 2, 4, 7, 11};
        for (int mirrors = 0; mirrors <= 4; mirrors++) {
            due.is("agree() of " + mirrors + " without shots", Fields.of(mirrors).agree(),
                    ofEach[mirrors]);
        }
        due.is("agree() of forty without shots", Fields.of(40).agree(), 1 + 40 + 780);
    }

    private static void allShots(Due due) {
        MirrorTower x = Fields.of(5);
        x.shot(0b00011, 0, 1);
        due.is("agree(): 0 or 1, alone or with one of three", x.agree(), 8);
        x.shot(0b01100, 0, 1);
        due.is("agree(): one of each two", x.agree(), 4);
        x.shot(0b00101, 0, 1);
        due.is("agree()", x.agree(), 2);
        x.shot(0b00001, 0, 0);
        due.is("agree()", x.agree(), 1);
        x.shot(0b00001, 0, 1);
        due.is("agree(): two shots that go against one another", x.agree(), 0);
        MirrorTower all = Fields.of(40);
        for (int i = 0; i < 11; i++) {
            all.shot(1 << i, 0, 1);
        }
        all.shot(1 << 11, 0, 0);
        due.is("agree(): the twelfth counts like the first", all.agree(), 1 + 28);
        stucks(due, all, 0, 0, 0, 0, 0, 0, 0, 0, 0, 0, 0, 1, 2);
        eachShotForItself(due);
    }

    /** Misses of one shot never make up for those of another. */
    private static void eachShotForItself(Due due) {
        MirrorTower x = Fields.of(14);
        x.shot(0b0011, 0, 0);
        x.shot(0b0100, 0, 1);
        due.is("agree(): 0 and 1, not 2", x.agree(), 1);
        for (int i = 3; i <= 11; i++) {
            x.shot(1 << i, 0, 1);
        }
        x.shot(1 | 1 << 12, 0, 1);
        due.is("count(4)", x.count(4), 12);
        due.is("agree(): still 0 and 1", x.agree(), 1);
        stucks(due, x, 1, 1, 0, 0);
        MirrorTower y = Fields.of(5);
        y.shot(0b01111, 0, 0);
        y.shot(0b10000, 0, 1);
        due.is("agree(): four missed are not one of the next shot", y.agree(), 0);
    }

    private static void sure(Due due) {
        MirrorTower x = Fields.of(4);
        due.is("unsure() without shots", x.unsure(), 4);
        x.shot(0b0011, 0, 0);
        stucks(due, x, 1, 1, 0, 0);
        due.is("unsure(): two in all, two in none", x.unsure(), 0);
        x.forget();
        x.shot(0b0001, 0, 0);
        stucks(due, x, 1, 2, 2, 2);
        due.is("unsure(): one in all, three in some", x.unsure(), 3);
    }

    /** Those for which a promise names a trouble; all others leave it as it is. */
    private static void latestThatMayBe(Due due) {
        MirrorTower x = Fields.of(1);
        x.limit(4, 0);
        x.shaded(1, 0, true);
        due.is("trouble() behind shaded()", x.trouble(), 1);
        x.power(0, 24);
        due.is("trouble() behind power()", x.trouble(), 1);
        x.stowed(24);
        due.is("trouble() behind stowed()", x.trouble(), 1);
        x.soil(1);
        due.is("trouble() behind soil()", x.trouble(), 1);
        x.aimed(1);
        due.is("trouble() behind aimed()", x.trouble(), 1);
        x.face(4);
        due.is("trouble() behind face()", x.trouble(), 1);
        x.comes(24);
        due.is("trouble() behind comes()", x.trouble(), 1);
        x.plan();
        due.is("trouble() behind plan()", x.trouble(), 1);
        x.runs(24);
        due.is("trouble() behind runs()", x.trouble(), 1);
        x.earned();
        x.forget();
        x.agree();
        x.unsure();
        due.is("trouble() behind forget(), agree(), unsure()", x.trouble(), 1);
        x.stuck(1);
        due.is("trouble() behind stuck()", x.trouble(), 1);
        x.count(6);
        due.is("trouble() behind count()", x.trouble(), 1);
        due.is("trouble() behind trouble()", x.trouble(), 1);
    }

    private static void itWasNot(Due due) {
        MirrorTower x = new MirrorTower();
        due.is("trouble() of a new one", x.trouble(), 0);
        x.limit(4, 0);
        due.is(x, "mirror(0, 1)", x.mirror(0, 1), 0, 0);
        x.limit(4, 0);
        due.is(x, "sun(0, 1, 0, 9)", x.sun(0, 1, 0, 9), true, 0);
        x.limit(4, 0);
        due.is(x, "limit(0, 5)", x.limit(0, 5), true, 0);
        x.limit(4, 0);
        due.is(x, "wind(5, 5)", x.wind(5, 5), true, 0);
        x.limit(4, 0);
        due.is(x, "price(0, 5)", x.price(0, 5), true, 0);
        x.limit(4, 0);
        due.is(x, "dust(5)", x.dust(5), true, 0);
        x.limit(4, 0);
        due.is(x, "wash(1)", x.wash(1), 0, 0);
        x.limit(4, 0);
        due.is(x, "aim(1)", x.aim(1), 0, 0);
        x.limit(4, 0);
        due.is(x, "best(1)", x.best(1), 0, 0);
        x.limit(4, 0);
        due.is(x, "step(false)", x.step(false), 0, 0);
        x.limit(4, 0);
        due.is(x, "shot(1, 0, 1)", x.shot(1, 0, 1), 0, 0);
    }

    private static void noneSuch(Due due) {
        MirrorTower x = new MirrorTower();
        due.is(x, "limit(4, 5)", x.limit(4, 5), false, 1);
        x.dust(1);
        due.is(x, "limit(-1, 5)", x.limit(-1, 5), false, 1);
    }

    private static void aNumber(Due due) {
        MirrorTower x = Fields.of(1);
        due.is(x, "mirror(0, 15)", x.mirror(0, 15), NONE, 2);
        x.limit(4, 0);
        due.is(x, "sun(24, 1, 0, 9)", x.sun(24, 1, 0, 9), false, 2);
        x.limit(4, 0);
        due.is(x, "limit(0, 10001)", x.limit(0, 10001), false, 2);
        x.limit(4, 0);
        due.is(x, "wind(0, 100)", x.wind(0, 100), false, 2);
        x.limit(4, 0);
        due.is(x, "price(0, 1000)", x.price(0, 1000), false, 2);
        x.limit(4, 0);
        due.is(x, "dust(21)", x.dust(21), false, 2);
        x.limit(4, 0);
        due.is(x, "wash(41)", x.wash(41), NONE, 2);
        x.limit(4, 0);
        due.is(x, "aim(24)", x.aim(24), NONE, 2);
        x.limit(4, 0);
        due.is(x, "best(24)", x.best(24), NONE, 2);
        x.limit(4, 0);
        due.is(x, "step(true)", x.step(true), NONE, 2);
        x.limit(4, 0);
        due.is(x, "shot(1, 0, 2)", x.shot(1, 0, 2), NONE, 2);
    }

    private static void noRoom(Due due) {
        MirrorTower x = Fields.of(40);
        due.is(x, "mirror, the 41st", x.mirror(14, 14), NONE, 3);
        for (int i = 0; i < 12; i++) {
            x.shot(1, 0, 1);
        }
        due.is("trouble() of the 12th shot", x.trouble(), 0);
        due.is(x, "shot, the 13th", x.shot(1, 0, 1), NONE, 3);
    }

    private static void placeNotSo(Due due) {
        MirrorTower x = new MirrorTower();
        due.is(x, "mirror(7, 0), the tower's", x.mirror(7, 0), NONE, 4);
        due.is(x, "mirror(3, 4)", x.mirror(3, 4), 0, 0);
        due.is(x, "mirror(3, 4), taken", x.mirror(3, 4), NONE, 4);
        due.is(x, "mirror(4, 3) isn't taken", x.mirror(4, 3), 1, 0);
    }

    private static void shotNotSo(Due due) {
        MirrorTower x = Fields.of(2);
        due.is(x, "shot(0, 0, 0)", x.shot(0, 0, 0), NONE, 4);
        due.is(x, "shot(4, 0, 0)", x.shot(4, 0, 0), NONE, 4);
        MirrorTower none = new MirrorTower();
        due.is(none, "shot(1, 0, 0) without mirrors", none.shot(1, 0, 0), NONE, 4);
        due.is(none, "shot(1, 0, 1) without mirrors", none.shot(1, 0, 1), NONE, 4);
    }

    private static void lowAndHigh(Due due) {
        MirrorTower x = Fields.of(40);
        x.shot(LEAST, 0, 0);
        due.is("stuck(31) by the last bit of low", x.stuck(31), 1);
        x.shot(0, 1, 0);
        due.is("stuck(32) by the first bit of high", x.stuck(32), 1);
        due.is("agree()", x.agree(), 1);
        x.forget();
        x.shot(1, 0, 0);
        x.shot(0, 128, 0);
        stucks(due, x, 1, 0);
        due.is("stuck(39) by the last bit of high", x.stuck(39), 1);
        x.forget();
        x.shot(-1, 0, 32);
        due.is("unsure(): those from 32 on", x.unsure(), 8);
        due.is("stuck(31)", x.stuck(31), 0);
        due.is("stuck(32)", x.stuck(32), 2);
    }

    private static void shotNumbers(Due due) {
        MirrorTower x = Fields.of(2);
        due.is(x, "shot(1, 0, 1)", x.shot(1, 0, 1), 0, 0);
        x.shot(4, 0, 1);
        x.shot(1, 0, 2);
        due.is(x, "shot(3, 0, 0): refused ones have no number", x.shot(3, 0, 0), 1, 0);
        x.forget();
        due.is(x, "shot(2, 0, 0): from the first again", x.shot(2, 0, 0), 0, 0);
        due.is(x, "shot(2, 0, 0): the same once more", x.shot(2, 0, 0), 1, 0);
    }

    private static void moreHits(Due due) {
        MirrorTower x = Fields.of(40);
        due.is(x, "shot(7, 0, 4)", x.shot(7, 0, 4), NONE, 2);
        due.is(x, "shot(7, 0, 3)", x.shot(7, 0, 3), 0, 0);
        due.is(x, "shot(0, 255, 9)", x.shot(0, 255, 9), NONE, 2);
        due.is(x, "shot(0, 255, 8)", x.shot(0, 255, 8), 1, 0);
        due.is(x, "shot(-1, 0, 33)", x.shot(-1, 0, 33), NONE, 2);
        due.is(x, "shot(-1, 0, 32)", x.shot(-1, 0, 32), 2, 0);
        due.is(x, "shot(1, 1, 3)", x.shot(1, 1, 3), NONE, 2);
        due.is(x, "shot(1, 1, 2)", x.shot(1, 1, 2), 3, 0);
        due.is(x, "shot(1, 0, most)", x.shot(1, 0, MOST), NONE, 2);
        due.is(x, "shot(0, 0, 1): ahead of 4", x.shot(0, 0, 1), NONE, 2);
        due.is("count(4): refused ones aren't kept", x.count(4), 4);
    }

    private static void hitsBelow(Due due) {
        MirrorTower x = Fields.of(2);
        due.is(x, "shot(1, 0, -1)", x.shot(1, 0, -1), NONE, 2);
        due.is(x, "shot(1, 0, 0)", x.shot(1, 0, 0), 0, 0);
        due.is(x, "shot(1, 0, least)", x.shot(1, 0, LEAST), NONE, 2);
        due.is(x, "shot(0, 0, -1): ahead of 4", x.shot(0, 0, -1), NONE, 2);
        due.is("count(4)", x.count(4), 1);
    }

    private static void shotOfNone(Due due) {
        MirrorTower x = Fields.of(2);
        due.is(x, "shot(0, 0, 0)", x.shot(0, 0, 0), NONE, 4);
        due.is("count(4)", x.count(4), 0);
        due.is("agree()", x.agree(), 4);
    }

    private static void shotOfOthers(Due due) {
        MirrorTower x = Fields.of(3);
        due.is(x, "shot(8, 0, 0), the next number", x.shot(8, 0, 0), NONE, 4);
        due.is(x, "shot(8, 0, 1)", x.shot(8, 0, 1), NONE, 4);
        due.is(x, "shot(12, 0, 1), one is there", x.shot(12, 0, 1), NONE, 4);
        due.is(x, "shot(1, 1, 1), one is there", x.shot(1, 1, 1), NONE, 4);
        due.is(x, "shot(-1, 0, 1)", x.shot(-1, 0, 1), NONE, 4);
        due.is(x, "shot(0, -1, 1)", x.shot(0, -1, 1), NONE, 4);
        due.is("count(4)", x.count(4), 0);
        x.mirror(14, 14);
        due.is(x, "shot(8, 0, 1), now it is there", x.shot(8, 0, 1), 0, 0);
        MirrorTower most = Fields.of(39);
        due.is(most, "shot(0, 128, 0) of 39", most.shot(0, 128, 0), NONE, 4);
        due.is(most, "shot(0, 64, 0) of 39", most.shot(0, 64, 0), 0, 0);
        MirrorTower low = Fields.of(32);
        due.is(low, "shot(0, 1, 0) of 32", low.shot(0, 1, 0), NONE, 4);
        due.is(low, "shot(-1, 0, 31) of 32", low.shot(-1, 0, 31), 0, 0);
    }

    private static void shotsFull(Due due) {
        MirrorTower x = Fields.of(2);
        for (int i = 0; i < 12; i++) {
            due.is(x, "shot " + i, x.shot(3, 0, 1), i, 0);
        }
        due.is(x, "shot, the 13th", x.shot(1, 0, 0), NONE, 3);
        due.is(x, "shot, the 13th, with wrong hits", x.shot(1, 0, 2), NONE, 2);
        due.is(x, "shot, the 13th, of none", x.shot(0, 0, 0), NONE, 4);
        due.is(x, "shot, the 13th, of one that isn't", x.shot(4, 0, 0), NONE, 4);
        due.is("count(4)", x.count(4), 12);
        due.is("agree(): the 13th isn't kept", x.agree(), 2);
    }

    private static void forget(Due due) {
        MirrorTower x = Fields.of(2);
        due.is("forget() of none", x.forget(), 0);
        for (int i = 0; i < 12; i++) {
            x.shot(3, 0, 0);
        }
        due.is("forget() of twelve", x.forget(), 12);
        due.is("count(4)", x.count(4), 0);
        due.is("forget() again", x.forget(), 0);
        due.is("agree()", x.agree(), 4);
        stucks(due, x, 2, 2);
        due.is(x, "shot: there is room again", x.shot(1, 0, 1), 0, 0);
        due.is("forget() of one", x.forget(), 1);
    }

    private static void agree(Due due) {
        MirrorTower x = new MirrorTower();
        due.is("agree() without mirrors", x.agree(), 1);
        x.mirror(0, 1);
        due.is("agree() of one", x.agree(), 2);
        x.shot(1, 0, 0);
        due.is("agree(): it is stuck", x.agree(), 1);
        x.shot(1, 0, 1);
        due.is("agree(): it can't be both", x.agree(), 0);
    }

    private static void stuck(Due due) {
        MirrorTower x = Fields.of(4);
        stucks(due, x, 2, 2, 2, 2);
        x.shot(0b1111, 0, 3);
        stucks(due, x, 2, 2, 2, 2);
        x.shot(0b0011, 0, 2);
        stucks(due, x, 0, 0, 2, 2);
        x.shot(0b0100, 0, 0);
        stucks(due, x, 0, 0, 1, 0);
    }

    private static void stuckByNoSet(Due due) {
        MirrorTower x = Fields.of(3);
        x.shot(0b111, 0, 0);
        due.is("agree(): three are too many", x.agree(), 0);
        stucks(due, x, 2, 2, 2);
        due.is("unsure()", x.unsure(), 3);
    }

    private static void stuckNone(Due due) {
        MirrorTower x = Fields.of(3);
        for (int mirror : new int[] {-1, 3, 39, 40, LEAST, MOST}) {
            due.is("stuck(" + mirror + ")", x.stuck(mirror), NONE);
        }
        x.shot(0b111, 0, 0);
        due.is("stuck(3) if no set agrees", x.stuck(3), NONE);
        due.is("stuck(0) without mirrors", new MirrorTower().stuck(0), NONE);
        due.is("stuck(39) of forty", Fields.of(40).stuck(39), 2);
    }

    private static void unsure(Due due) {
        due.is("unsure() without mirrors", new MirrorTower().unsure(), 0);
        due.is("unsure() of forty", Fields.of(40).unsure(), 40);
        MirrorTower x = Fields.of(4);
        x.shot(0b1111, 0, 3);
        due.is("unsure()", x.unsure(), 4);
        x.shot(0b0011, 0, 2);
        due.is("unsure()", x.unsure(), 2);
        x.shot(0b0100, 0, 0);
        due.is("unsure()", x.unsure(), 0);
        x.shot(0b0100, 0, 1);
        due.is("unsure() when no set agrees", x.unsure(), 4);
    }

    private static void countMirrors(Due due) {
        for (int mirrors : new int[] {0, 1, 39, 40}) {
            due.is("count(0)", Fields.of(mirrors).count(0), mirrors);
        }
    }

    private static void countNow(Due due) {
        MirrorTower x = new MirrorTower();
        for (int i = 0; i <= 24; i++) {
            due.is("count(1)", x.count(1), i == 24 ? 0 : i);
            x.step(false);
        }
    }

    private static void countUnits(Due due) {
        MirrorTower x = Fields.plant(9, 0);
        due.is("count(2): they come as the hour goes by", x.count(2), 0);
        x.step(false);
        due.is("count(2)", x.count(2), 9);
        x.step(true);
        due.is("count(2)", x.count(2), 2);
    }

    private static void countWarm(Due due) {
        MirrorTower x = Fields.plant(9, 0);
        due.is("count(3) at first", x.count(3), 0);
        x.step(true);
        due.is("count(3) behind a run", x.count(3), 1);
        x.step(true);
        due.is("count(3) behind a refused one", x.count(3), 1);
        x.step(false);
        due.is("count(3) behind none", x.count(3), 0);
    }

    private static void countShots(Due due) {
        MirrorTower x = Fields.of(1);
        for (int i = 0; i <= 13; i++) {
            due.is("count(4)", x.count(4), Math.min(12, i));
            x.shot(1, 0, 1);
        }
    }

    private static void countSoil(Due due) {
        MirrorTower x = Fields.of(40);
        due.is("count(5) at first", x.count(5), 0);
        x.step(false);
        due.is("count(5)", x.count(5), 40);
        x.dust(20);
        Fields.waitFor(x, 5);
        due.is("count(5), 90 each", x.count(5), 3600);
        x.wash(1);
        due.is("count(5), one washed", x.count(5), 3510);
    }

    private static void countNone(Due due) {
        MirrorTower x = Fields.of(1);
        for (int what : new int[] {-1, 6, 7, LEAST, MOST}) {
            due.is("count(" + what + ")", x.count(what), NONE);
        }
    }

    private static void troubleTold(Due due) {
        MirrorTower x = new MirrorTower();
        due.is("trouble() at first", x.trouble(), 0);
        x.limit(9, 0);
        due.is("trouble()", x.trouble(), 1);
        x.dust(99);
        due.is("trouble()", x.trouble(), 2);
        x.mirror(7, 0);
        due.is("trouble()", x.trouble(), 4);
        x.dust(0);
        due.is("trouble()", x.trouble(), 0);
    }
}
