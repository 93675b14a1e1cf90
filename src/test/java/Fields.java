/** Fields that many tests begin with. */
final class Fields {
    static final int[] WRONG_HOURS = {-1, 24, 25, Integer.MIN_VALUE, Integer.MAX_VALUE};
    static final int[] ALL_HOURS = {0, 1, 2, 3, 4, 5, 6, 7, 8, 9, 10, 11, 12, 13, 14, 15, 16, 17,
        18, 19, 20, 21, 22, 23};

    /**
     * Forty places of which none is between another and the tower, nor right behind another as
     * seen by steps of (0, 1).
     */
    private static final String[] ROWS = {
        "14: 0 1 2 3 4 5 6 7 8 9 10 11 12 13 14",
        "12: 0 2 3 4 5 6 8 9 10 11 12 14",
        "10: 0 1 3 4 5 6 8 9 10 11 13 14",
        "8: 0"};

    private Fields() { }

    /** So many mirrors, in any places. */
    static MirrorTower of(int mirrors) {
        MirrorTower x = new MirrorTower();
        for (int i = 0; i < mirrors; i++) {
            x.mirror(i % 15, 1 + i / 15);
        }
        return x;
    }

    /** So many clean mirrors with a power of 100 each in the hours given; no dust. */
    static MirrorTower bright(int mirrors, int... hours) {
        MirrorTower x = new MirrorTower();
        addBright(x, 0, mirrors);
        for (int hour : hours) {
            x.sun(hour, 0, 1, 9);
        }
        x.dust(0);
        return x;
    }

    /** The bright places from one number on to another. */
    static void addBright(MirrorTower x, int from, int to) {
        int number = 0;
        for (String row : ROWS) {
            String[] parts = row.split(": ");
            for (String column : parts[1].split(" ")) {
                if (number >= from && number < to) {
                    x.mirror(Integer.parseInt(column), Integer.parseInt(parts[0]));
                }
                number++;
            }
        }
    }

    /** As bright(), with cells that hold all: as many units come in such an hour as mirrors. */
    static MirrorTower plant(int mirrors, int... hours) {
        MirrorTower x = bright(mirrors, hours);
        limits(x, 10000, 10000, 10000, 10000);
        return x;
    }

    static void limits(MirrorTower x, int a, int b, int c, int d) {
        x.limit(0, a);
        x.limit(1, b);
        x.limit(2, c);
        x.limit(3, d);
    }

    static void waitFor(MirrorTower x, int hours) {
        for (int i = 0; i < hours; i++) {
            x.step(false);
        }
    }
}
