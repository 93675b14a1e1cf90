import java.util.Random;

/** Long runs of calls, the same each time, on the program and on the model of the document. */
public final class ModelTest {
    private static final int RUNS = 160;
    private static final int CALLS = 511;
    private static final Due due = new Due("ModelTest");

    private final Random random;
    private final MirrorTower x = new MirrorTower();
    private final Model m = new Model();
    private final int run;
    private final int side;
    private final int mostMirrors;
    /** The stuck ones by which shots are told, so that sets do agree. */
    private final int[] stuck = new int[2];

    private ModelTest(int run) {
        this.run = run;
        random = new Random(run);
        side = 3 + random.nextInt(14);
        mostMirrors = run % 4 == 0 ? 43 : random.nextInt(44);
        stuck[0] = random.nextInt(40);
        stuck[1] = random.nextInt(40);
    }

    public static void main(String[] args) {
        for (int run = 0; run < RUNS; run++) {
            new ModelTest(run).go();
        }
        due.end();
    }

    private void go() {
        for (int i = 0; i < mostMirrors; i++) {
            mirror();
        }
        for (int i = random.nextInt(24); i > 0; i--) {
            sun();
        }
        if (run % 4 == 0) {
            brighten();
        }
        for (int i = mostMirrors; i < CALLS - 100; i += 2) {
            call();
            is("trouble()", x.trouble(), m.trouble());
        }
        for (int cell = -1; cell <= 4; cell++) {
            is("face " + cell, x.face(cell), m.face(cell));
        }
        for (int hour = -1; hour <= 24; hour++) {
            is("runs " + hour, x.runs(hour), m.runs(hour));
        }
        for (int what = -1; what <= 6; what++) {
            is("count " + what, x.count(what), m.count(what));
        }
    }

    /** Days of much heat, so that the store comes to be full. */
    private void brighten() {
        for (int hour = 0; hour < 24; hour++) {
            int height = 7 + random.nextInt(3);
            is("sun", x.sun(hour, 1, -1, height), m.sun(hour, 1, -1, height));
        }
        for (int cell = 0; cell < 4; cell++) {
            is("limit", x.limit(cell, 9000), m.limit(cell, 9000));
        }
        is("dust", x.dust(1), m.dust(1));
        for (int hour = 0; hour < 20; hour++) {
            is("step", x.step(false), m.step(false));
        }
        is("count 2", x.count(2), m.count(2));
        plan();
    }

    private void is(String call, int got, int want) {
        due.is("run " + run + ": " + call, got, want);
    }

    private void is(String call, boolean got, boolean want) {
        due.is("run " + run + ": " + call, got, want);
    }

    /** Mostly a number from 0 to most, at times one just outside. */
    private int number(int most) {
        int kind = random.nextInt(40);
        if (kind == 0) {
            return -1;
        }
        if (kind == 1) {
            return most + 1;
        }
        if (kind == 2) {
            return random.nextInt();
        }
        return random.nextInt(most + 1);
    }

    private void mirror() {
        int a = random.nextInt(8) == 0 ? 7 : random.nextInt(side) + (15 - side) / 2;
        int b = random.nextInt(8) == 0 ? 0 : random.nextInt(side);
        is("mirror " + a + " " + b, x.mirror(a, b), m.mirror(a, b));
    }

    private void sun() {
        int hour = number(23);
        int dx = number(4) - 2;
        int dy = number(4) - 2;
        int height = number(9);
        is("sun", x.sun(hour, dx, dy, height), m.sun(hour, dx, dy, height));
    }

    private void limit() {
        int cell = number(3);
        int v = random.nextInt(3) == 0 ? number(10000) : number(300);
        is("limit", x.limit(cell, v), m.limit(cell, v));
    }

    private void shot() {
        int size = m.count(0);
        long bits = random.nextInt(10) == 0 ? random.nextLong()
                : random.nextLong() & random.nextLong() & ((1L << size) - 1);
        int hits = Long.bitCount(bits & ~(1L << stuck[0]) & ~(1L << stuck[1]));
        if (random.nextInt(12) == 0) {
            hits = number(40);
        }
        int low = (int) bits;
        int high = (int) (bits >>> 32);
        is("shot", x.shot(low, high, hits), m.shot(low, high, hits));
        is("agree", x.agree(), m.agree());
        is("unsure", x.unsure(), m.unsure());
    }

    private void plan() {
        is("plan", x.plan(), m.plan());
        for (int hour = 0; hour < 24; hour++) {
            is("runs " + hour, x.runs(hour), m.runs(hour));
        }
    }

    private void aim() {
        int hour = number(23);
        is("aim " + hour, x.aim(hour), m.aim(hour));
        for (int i = 0; i < m.count(0); i++) {
            is("aimed " + i, x.aimed(i), m.aimed(i));
        }
    }

    private void best(int hour) {
        is("best", x.best(hour), m.best(hour));
        for (int cell = 0; cell < 4; cell++) {
            int v = 10 * random.nextInt(25) + random.nextInt(2);
            is("limit", x.limit(cell, v), m.limit(cell, v));
        }
        for (int any = 0; any < 24; any += 3) {
            is("best in tight cells", x.best(any), m.best(any));
        }
        for (int cell = 0; cell < 4; cell++) {
            is("limit", x.limit(cell, 700), m.limit(cell, 700));
        }
    }

    private void call() {
        int mirror = number(Math.max(1, m.count(0) - 1));
        int hour = number(23);
        int v = number(99);
        boolean flag = random.nextInt(3) == 0;
        switch (random.nextInt(25)) {
            case 0 -> mirror();
            case 1, 2 -> sun();
            case 3 -> limit();
            case 4 -> is("wind", x.wind(hour, v * 2 / 3), m.wind(hour, v * 2 / 3));
            case 5, 6 -> is("price", x.price(hour, v % 4 * 7), m.price(hour, v % 4 * 7));
            case 7 -> is("dust", x.dust(v / 4), m.dust(v / 4));
            case 8 -> is("shaded", x.shaded(mirror, hour, flag), m.shaded(mirror, hour, flag));
            case 9 -> is("power", x.power(mirror, hour), m.power(mirror, hour));
            case 10 -> is("stowed", x.stowed(hour), m.stowed(hour));
            case 11 -> is("soil", x.soil(mirror), m.soil(mirror));
            case 12, 13 -> is("wash", x.wash(v / 2), m.wash(v / 2));
            case 14 -> aim();
            case 15 -> is("aimed", x.aimed(mirror), m.aimed(mirror));
            case 16 -> best(hour);
            case 17 -> is("comes", x.comes(hour), m.comes(hour));
            case 18 -> plan();
            case 19, 20, 21 -> is("step " + flag, x.step(flag), m.step(flag));
            case 22 -> is("earned", x.earned(), m.earned());
            case 23 -> shot();
            default -> others(mirror);
        }
    }

    private void others(int mirror) {
        is("stuck", x.stuck(mirror), m.stuck(mirror));
        if (random.nextInt(6) == 0) {
            is("forget", x.forget(), m.forget());
        }
        int what = number(5);
        is("count " + what, x.count(what), m.count(what));
    }
}
