/**
 * Long runs of calls on the class and on the model, answer by answer; the runs are the same ones each time. Each is as
 * long as the document promises, digest() being its last call.
 */
public final class RunsTest {
    private static final int RUNS = 480;
    private static final int MOST_CALLS = 512;
    private static final int[][] STEPS_FROM = {{0, 1, 4, 5}, {2, 3, 6}, {7, 8, 9, 10}};

    private long seed;
    private Bijectory house;
    private Model model;
    private int run;
    private int calls;

    public static void main(String[] args) {
        RunsTest test = new RunsTest();
        for (int run = 0; run < RUNS; run++) {
            test.goThrough(run);
        }
        Check.end();
    }

    private int below(int bound) {
        seed = seed * 6364136223846793005L + 1442695040888963407L;
        return (int) ((seed >>> 33) % bound);
    }

    /** Mostly 0 to last, now and then one beside it, or far from it. */
    private int about(int last) {
        switch (below(24)) {
            case 0:
                return -1;
            case 1:
                return last + 1;
            case 2:
                return new int[] {Integer.MIN_VALUE, Integer.MAX_VALUE, 1 << 16, -7, 1 << 31}[below(5)];
            default:
                return last < 0 ? 0 : below(last + 1);
        }
    }

    private void goThrough(int number) {
        run = number;
        seed = 9503L + number;
        house = new Bijectory();
        model = new Model();
        int greatest = number % 6 + 1;
        calls = 0;
        while (calls < MOST_CALLS - 1) {
            next(greatest);
        }
        compare("digest()", () -> model.digest(), () -> house.digest());
    }

    /** Leaves the last call of the house to digest(). */
    private void due(String call, Check.Call want, Check.Call got) {
        if (calls < MOST_CALLS - 1) {
            compare(call, want, got);
        }
    }

    private void compare(String call, Check.Call want, Check.Call got) {
        calls++;
        Check.due("run " + run + ": " + call, Check.outcome(want), got);
    }

    private void next(int greatest) {
        switch (below(12)) {
            case 0:
                told(greatest);
                break;
            case 1:
            case 2:
                mapped();
                break;
            case 3:
            case 4:
                walked();
                break;
            case 5:
                claimed();
                break;
            case 6:
            case 7:
            case 8:
                askedOfObjects();
                break;
            default:
                askedOfMaps();
                break;
        }
    }

    private void told(int greatest) {
        int size = about(greatest);
        if (below(3) == 0) {
            due("size(" + size + ")", () -> model.size(size), () -> house.size(size));
        }
        int what = about(6);
        due("many(" + what + ")", () -> model.many(what), () -> house.many(what));
        if (below(8) == 0) {
            due("digest()", () -> model.digest(), () -> house.digest());
        }
    }

    private void mapped() {
        int maps = model.many(1);
        int map = about(maps - 1);
        boolean known = map >= 0 && map < maps;
        int[] fitting = STEPS_FROM[known ? model.ofMap(map, 1) : 0];
        int step = below(4) == 0 ? about(10) : fitting[below(fitting.length)];
        if (below(6) == 0) {
            due("map(" + step + ")", () -> model.map(step), () -> house.map(step));
        } else if (below(3) == 0) {
            due("then(" + map + ", " + step + ")", () -> model.then(map, step), () -> house.then(map, step));
        }
        int what = about(7);
        due("ofMap(" + map + ", " + what + ")", () -> model.ofMap(map, what), () -> house.ofMap(map, what));
    }

    private void walked() {
        int family = about(2);
        boolean known = family >= 0 && family <= 2;
        int code = known && below(8) > 0 ? model.unrank(family, below(model.objects(family))) : about(6543);
        if (below(5) == 0) {
            due("walker(" + family + ", " + code + ")", () -> model.walker(family, code),
                () -> house.walker(family, code));
        }
        int walker = about(model.many(2) - 1);
        int map = about(model.many(1) - 1);
        int often = below(2) == 0 ? 1 : about(60);
        due("send(" + walker + ", " + map + ", " + often + ")", () -> model.send(walker, map, often),
            () -> house.send(walker, map, often));
        int what = about(4);
        due("ofWalker(" + walker + ", " + what + ")", () -> model.ofWalker(walker, what),
            () -> house.ofWalker(walker, what));
    }

    private void claimed() {
        int map = about(model.many(1) - 1);
        int which = about(3);
        int other = about(3);
        if (below(5) == 0) {
            due("claim(" + map + ", " + which + ", " + other + ")", () -> model.claim(map, which, other),
                () -> house.claim(map, which, other));
        }
        int claim = about(model.many(3) - 1);
        int what = about(4);
        due("trial(" + claim + ")", () -> model.trial(claim), () -> house.trial(claim));
        due("ofClaim(" + claim + ", " + what + ")", () -> model.ofClaim(claim, what),
            () -> house.ofClaim(claim, what));
    }

    private void askedOfObjects() {
        int family = about(2);
        int other = about(2);
        int which = about(3);
        int that = about(3);
        int last = family >= 0 && family <= 2 ? model.objects(family) - 1 : 5;
        int rank = about(last);
        int value = about(36);
        int times = about(6);
        String statistic = "(" + family + ", " + which + ")";
        due("objects(" + family + ")", () -> model.objects(family), () -> house.objects(family));
        due("unrank(" + family + ", " + rank + ")", () -> model.unrank(family, rank),
            () -> house.unrank(family, rank));
        due("statistic(" + family + ", " + which + ", " + rank + ")", () -> model.statistic(family, which, rank),
            () -> house.statistic(family, which, rank));
        due("spread" + statistic + " of " + value, () -> model.spread(family, which, value),
            () -> house.spread(family, which, value));
        due("signs" + statistic, () -> model.signs(family, which), () -> house.signs(family, which));
        due("mean" + statistic, () -> model.mean(family, which), () -> house.mean(family, which));
        due("alike" + statistic + " with (" + other + ", " + that + ")",
            () -> model.alike(family, which, other, that), () -> house.alike(family, which, other, that));
        int pattern = new int[] {12, 21, 132, 231, 321, 1234, 4321, 2413, about(4400), 1, 11, 0, 12345}[below(13)];
        due("contains(" + rank + ", " + pattern + ")", () -> model.contains(rank, pattern),
            () -> house.contains(rank, pattern));
        if (below(10) == 0) {
            due("sorted(" + times + ")", () -> model.sorted(times), () -> house.sorted(times));
        }
    }

    private void askedOfMaps() {
        int maps = model.many(1);
        int map = about(maps - 1);
        boolean known = map >= 0 && map < maps;
        int rank = about(known ? model.objects(model.ofMap(map, below(2))) - 1 : 5);
        int which = about(3);
        int other = about(3);
        due("image(" + map + ", " + rank + ")", () -> model.image(map, rank), () -> house.image(map, rank));
        due("source(" + map + ", " + rank + ")", () -> model.source(map, rank), () -> house.source(map, rank));
        due("rounds(" + map + ")", () -> model.rounds(map), () -> house.rounds(map));
        due("period(" + map + ")", () -> model.period(map), () -> house.period(map));
        due("against(" + map + ", " + which + ", " + other + ")", () -> model.against(map, which, other),
            () -> house.against(map, which, other));
        due("cancels(" + map + ", " + which + ")", () -> model.cancels(map, which), () -> house.cancels(map, which));
    }
}
