import java.util.ArrayList;
import java.util.Arrays;
import java.util.HashMap;
import java.util.List;
import java.util.Map;

/** The document once more, as plain and slow as can be, to hold the program's answers against. */
final class Model {
    static final int NONE = -1;

    private record Place(int x, int y) { }

    private record Sun(int dx, int dy, int height) { }

    private record Shot(List<Integer> mirrors, int hits) { }

    private record Aims(int heat, int[] cells, int[] powers) { }

    private record Plan(int earned, String runs) { }

    private final List<Place> mirrors = new ArrayList<>();
    private final List<Integer> soil = new ArrayList<>();
    private final Map<Integer, Sun> suns = new HashMap<>();
    private final int[] limits = {500, 500, 500, 500};
    private final int[] winds = new int[24];
    private final int[] prices = new int[24];
    private final List<Shot> shots = new ArrayList<>();
    private int dust = 1;
    private int now;
    private int store;
    private boolean warm;
    private int earned;
    private int trouble;
    private Aims latestAims;
    private String latestRuns;

    Model() {
        Arrays.fill(prices, 10);
    }

    private int tell(int answer, int why) {
        trouble = why;
        return why == 0 ? answer : NONE;
    }

    private boolean tell(int why) {
        trouble = why;
        return why == 0;
    }

    private static boolean hour(int hour) {
        return 0 <= hour && hour <= 23;
    }

    private boolean isMirror(int m) {
        return 0 <= m && m < mirrors.size();
    }

    int mirror(int x, int y) {
        if (x < 0 || x > 14 || y < 0 || y > 14) {
            return tell(0, 2);
        }
        Place place = new Place(x, y);
        if (place.equals(new Place(7, 0)) || mirrors.contains(place)) {
            return tell(0, 4);
        }
        if (mirrors.size() == 40) {
            return tell(0, 3);
        }
        mirrors.add(place);
        soil.add(0);
        return tell(mirrors.size() - 1, 0);
    }

    boolean sun(int hour, int dx, int dy, int height) {
        boolean right = hour(hour) && dx >= -2 && dx <= 2 && dy >= -2 && dy <= 2
                && !(dx == 0 && dy == 0) && height >= 0 && height <= 9;
        if (right) {
            suns.put(hour, new Sun(dx, dy, height));
        }
        return tell(right ? 0 : 2);
    }

    boolean limit(int cell, int v) {
        if (cell < 0 || cell > 3) {
            return tell(1);
        }
        if (v < 0 || v > 10000) {
            return tell(2);
        }
        limits[cell] = v;
        return tell(0);
    }

    boolean wind(int hour, int v) {
        boolean right = hour(hour) && v >= 0 && v <= 99;
        if (right) {
            winds[hour] = v;
        }
        return tell(right ? 0 : 2);
    }

    boolean price(int hour, int v) {
        boolean right = hour(hour) && v >= 0 && v <= 999;
        if (right) {
            prices[hour] = v;
        }
        return tell(right ? 0 : 2);
    }

    boolean dust(int v) {
        boolean right = v >= 0 && v <= 20;
        if (right) {
            dust = v;
        }
        return tell(right ? 0 : 2);
    }

    private Sun sunOf(int hour) {
        return suns.getOrDefault(hour, new Sun(1, 0, 0));
    }

    private int shaders(int m, int hour) {
        Sun sun = sunOf(hour);
        int found = 0;
        if (sun.height() > 0) {
            for (int k = 1; k <= 10 - sun.height(); k++) {
                Place at = new Place(mirrors.get(m).x() + k * sun.dx(),
                        mirrors.get(m).y() + k * sun.dy());
                found += mirrors.contains(at) ? 1 : 0;
            }
        }
        return found;
    }

    /** Every place of the grid that lies on the line: its two parts together are the whole. */
    private int blockers(int m) {
        Place me = mirrors.get(m);
        int found = 0;
        for (Place at : mirrors) {
            double whole = Math.hypot(me.x() - 7, me.y());
            double parts = Math.hypot(at.x() - 7, at.y())
                    + Math.hypot(me.x() - at.x(), me.y() - at.y());
            if (!at.equals(me) && Math.abs(whole - parts) < 1e-9) {
                found++;
            }
        }
        return found;
    }

    int shaded(int m, int hour, boolean blocked) {
        if (!isMirror(m) || !hour(hour)) {
            return NONE;
        }
        return blocked ? blockers(m) : shaders(m, hour);
    }

    private int soilLater(int m, int hours) {
        int grown = soil.get(m);
        for (int i = 0; i < hours; i++) {
            grown = Math.min(90, grown + dust);
        }
        return grown;
    }

    private int powerLater(int m, int hour, int hours) {
        Sun sun = sunOf(hour);
        if (sun.height() == 0 || stowed(hour) == 1) {
            return 0;
        }
        int power = Math.max(0, 10 * sun.height() + 10 - soilLater(m, hours));
        for (int i = shaders(m, hour) + blockers(m); i > 0; i--) {
            power /= 2;
        }
        return power;
    }

    int power(int m, int hour) {
        return isMirror(m) && hour(hour) ? powerLater(m, hour, 0) : NONE;
    }

    int stowed(int hour) {
        if (!hour(hour)) {
            return NONE;
        }
        return winds[hour] > 50 || (hour != 23 && winds[hour + 1] > 50) ? 1 : 0;
    }

    int soil(int m) {
        return isMirror(m) ? soil.get(m) : NONE;
    }

    int wash(int many) {
        if (many < 1 || many > 40) {
            return tell(0, 2);
        }
        List<Integer> order = numbers();
        order.sort((a, b) -> soil.get(a).equals(soil.get(b)) ? a - b : soil.get(b) - soil.get(a));
        int gone = 0;
        for (int m : order.subList(0, Math.min(many, order.size()))) {
            gone += soil.set(m, 0);
        }
        return tell(gone, 0);
    }

    private List<Integer> numbers() {
        List<Integer> all = new ArrayList<>();
        for (int m = 0; m < mirrors.size(); m++) {
            all.add(m);
        }
        return all;
    }

    private List<Integer> byPower(int[] powers) {
        List<Integer> order = numbers();
        order.sort((a, b) -> powers[a] == powers[b] ? a - b : powers[b] - powers[a]);
        return order;
    }

    private int[] powersLater(int hour, int hours) {
        int[] powers = new int[mirrors.size()];
        for (int m = 0; m < powers.length; m++) {
            powers[m] = powerLater(m, hour, hours);
        }
        return powers;
    }

    private Aims aimsLater(int hour, int hours) {
        int[] powers = powersLater(hour, hours);
        int[] left = limits.clone();
        int[] sums = new int[4];
        int[] cells = new int[powers.length];
        int heat = 0;
        for (int m : byPower(powers)) {
            int cell = 0;
            for (int c = 3; c >= 0; c--) {
                cell = left[c] >= left[cell] ? c : cell;
            }
            cells[m] = -2;
            if (powers[m] <= left[cell]) {
                cells[m] = cell;
                left[cell] -= powers[m];
                sums[cell] += powers[m];
                heat += powers[m];
            }
        }
        return new Aims(heat, cells, sums);
    }

    int aim(int hour) {
        if (!hour(hour)) {
            return tell(0, 2);
        }
        latestAims = aimsLater(hour, 0);
        return tell(latestAims.heat(), 0);
    }

    int aimed(int m) {
        boolean known = latestAims != null && m >= 0 && m < latestAims.cells().length;
        return known ? latestAims.cells()[m] : NONE;
    }

    int face(int cell) {
        if (cell < 0 || cell > 3) {
            return NONE;
        }
        return latestAims == null ? 0 : latestAims.powers()[cell];
    }

    int best(int hour) {
        if (!hour(hour)) {
            return tell(0, 2);
        }
        int[] powers = powersLater(hour, 0);
        List<Integer> order = byPower(powers);
        return tell(bestFrom(order.subList(0, Math.min(7, order.size())), powers, limits.clone()), 0);
    }

    private static int bestFrom(List<Integer> few, int[] powers, int[] left) {
        if (few.isEmpty()) {
            return 0;
        }
        List<Integer> rest = few.subList(1, few.size());
        int power = powers[few.get(0)];
        int most = bestFrom(rest, powers, left);
        for (int cell = 0; cell < 4; cell++) {
            if (power <= left[cell]) {
                left[cell] -= power;
                most = Math.max(most, power + bestFrom(rest, powers, left));
                left[cell] += power;
            }
        }
        return most;
    }

    int comes(int hour) {
        return hour(hour) && hour >= now ? aimsLater(hour, hour - now).heat() : NONE;
    }

    int plan() {
        int[] in = new int[24];
        for (int hour = now; hour < 24; hour++) {
            in[hour] = comes(hour) / 100;
        }
        Plan plan = planFrom(now, store, warm, in, new HashMap<>());
        latestRuns = "-".repeat(now) + plan.runs();
        return plan.earned();
    }

    private Plan planFrom(int hour, int held, boolean warm, int[] in, Map<String, Plan> known) {
        if (hour == 24) {
            return new Plan(0, "");
        }
        String key = hour + " " + held + " " + warm;
        if (known.containsKey(key)) {
            return known.get(key);
        }
        int full = Math.min(200, held + in[hour]);
        Plan later = planFrom(hour + 1, full, false, in, known);
        Plan most = new Plan(later.earned(), "0" + later.runs());
        int need = warm ? 5 : 7;
        if (full >= need) {
            later = planFrom(hour + 1, full - need, true, in, known);
            Plan run = new Plan(later.earned() + 5 * prices[hour], "1" + later.runs());
            if (run.earned() > most.earned()
                    || (run.earned() == most.earned() && run.runs().compareTo(most.runs()) < 0)) {
                most = run;
            }
        }
        known.put(key, most);
        return most;
    }

    int runs(int hour) {
        if (!hour(hour) || latestRuns == null || latestRuns.charAt(hour) == '-') {
            return NONE;
        }
        return latestRuns.charAt(hour) - '0';
    }

    int step(boolean run) {
        int held = Math.min(200, store + comes(now) / 100);
        int need = !run ? 0 : warm ? 5 : 7;
        if (held < need) {
            return tell(0, 2);
        }
        int gain = run ? 5 * prices[now] : 0;
        store = held - need;
        warm = run;
        earned += gain;
        for (int m = 0; m < mirrors.size(); m++) {
            soil.set(m, soilLater(m, 1));
        }
        now = now == 23 ? 0 : now + 1;
        return tell(gain, 0);
    }

    int earned() {
        return earned;
    }

    int shot(int low, int high, int hits) {
        List<Integer> of = new ArrayList<>();
        for (int bit = 0; bit < 64; bit++) {
            int word = bit < 32 ? low : high;
            if ((word >>> (bit % 32) & 1) == 1) {
                of.add(bit);
            }
        }
        if (hits < 0 || hits > 40 || hits > of.size()) {
            return tell(0, 2);
        }
        if (of.isEmpty() || !isMirror(of.get(of.size() - 1))) {
            return tell(0, 4);
        }
        if (shots.size() == 12) {
            return tell(0, 3);
        }
        shots.add(new Shot(of, hits));
        return tell(shots.size() - 1, 0);
    }

    int forget() {
        int were = shots.size();
        shots.clear();
        return were;
    }

    private List<List<Integer>> agreeing() {
        List<List<Integer>> sets = new ArrayList<>();
        sets.add(List.of());
        for (int a : numbers()) {
            sets.add(List.of(a));
            for (int b = 0; b < a; b++) {
                sets.add(List.of(a, b));
            }
        }
        sets.removeIf(set -> !isSo(set));
        return sets;
    }

    private boolean isSo(List<Integer> set) {
        for (Shot shot : shots) {
            long hits = shot.mirrors().stream().filter(m -> !set.contains(m)).count();
            if (hits != shot.hits()) {
                return false;
            }
        }
        return true;
    }

    int agree() {
        return agreeing().size();
    }

    int stuck(int m) {
        return isMirror(m) ? stuckBy(m, agreeing()) : NONE;
    }

    private static int stuckBy(int m, List<List<Integer>> sets) {
        long with = sets.stream().filter(set -> set.contains(m)).count();
        if (sets.isEmpty() || (with > 0 && with < sets.size())) {
            return 2;
        }
        return with == 0 ? 0 : 1;
    }

    int unsure() {
        List<List<Integer>> sets = agreeing();
        return (int) numbers().stream().filter(m -> stuckBy(m, sets) == 2).count();
    }

    int count(int what) {
        int[] counts = {mirrors.size(), now, store, warm ? 1 : 0, shots.size(),
                soil.stream().mapToInt(s -> s).sum()};
        return what >= 0 && what < counts.length ? counts[what] : NONE;
    }

    int trouble() {
        return trouble;
    }
}
