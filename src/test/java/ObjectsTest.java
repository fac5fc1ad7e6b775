/** Promises 9 to 17: what one asks of objects. */
public final class ObjectsTest {
    private static final int[] PATHS = {1, 2, 5, 14, 42, 132};
    private static final int[] ORDERS = {1, 2, 6, 24, 120, 720};

    public static void main(String[] args) {
        objects();
        unrank();
        rank();
        statistic();
        spread();
        signs();
        alike();
        contains();
        containsNoPattern();
        sorted();
        Check.end();
    }

    private static Bijectory of(int size) {
        Bijectory house = new Bijectory();
        house.size(size);
        return house;
    }

    private static void objects() {
        for (int size = 1; size <= 6; size++) {
            Bijectory house = of(size);
            Check.due("9: paths of " + size, PATHS[size - 1], () -> house.objects(0));
            Check.due("9: trees of " + size, PATHS[size - 1], () -> house.objects(1));
            Check.due("9: orders of " + size, ORDERS[size - 1], () -> house.objects(2));
            Check.outside("9: objects(3)", () -> house.objects(3));
            Check.outside("9: objects(-1)", () -> house.objects(-1));
        }
    }

    private static void unrank() {
        Bijectory house = of(6);
        Check.due("10: the least path", 2730, () -> house.unrank(0, 0));
        Check.due("10: the greatest path", 4032, () -> house.unrank(0, 131));
        Check.due("10: the least tree", 2730, () -> house.unrank(1, 0));
        Check.due("10: the least order", 123456, () -> house.unrank(2, 0));
        Check.due("10: the second order", 123465, () -> house.unrank(2, 1));
        Check.due("10: an order", 213456, () -> house.unrank(2, 120));
        Check.due("10: the greatest order", 654321, () -> house.unrank(2, 719));
        Check.outside("10: unrank(0, 132)", () -> house.unrank(0, 132));
        Check.outside("10: unrank(1, 132)", () -> house.unrank(1, 132));
        Check.outside("10: unrank(2, 720)", () -> house.unrank(2, 720));
        Check.outside("10: unrank(2, -1)", () -> house.unrank(2, -1));
        Check.outside("10: unrank(3, 0)", () -> house.unrank(3, 0));
        Check.outside("10: unrank(-1, 0)", () -> house.unrank(-1, 0));
        Check.due("10: the one path of 1", 2, () -> of(1).unrank(0, 0));
        Check.due("10: the one order of 1", 1, () -> of(1).unrank(2, 0));
    }

    private static void rank() {
        Bijectory house = of(6);
        Check.due("11: rank(0, 4032)", 131, () -> house.rank(0, 4032));
        Check.due("11: rank(1, 2730)", 0, () -> house.rank(1, 2730));
        Check.due("11: rank(2, 654321)", 719, () -> house.rank(2, 654321));
        for (int code : new int[] {0, -1, 2729, 4033, 52, 4095, Integer.MIN_VALUE, Integer.MAX_VALUE}) {
            Check.due("11: rank(0, " + code + ")", -1, () -> house.rank(0, code));
            Check.due("11: rank(1, " + code + ")", -1, () -> house.rank(1, code));
            Check.due("11: rank(2, " + code + ")", -1, () -> house.rank(2, code));
        }
        for (int code : new int[] {12345, 123457, 113456, 1234567, 654322, 2730}) {
            Check.due("11: rank(2, " + code + ")", -1, () -> house.rank(2, code));
        }
        Check.outside("11: rank(3, 0)", () -> house.rank(3, 0));
        Check.outside("11: rank(-1, 123456)", () -> house.rank(-1, 123456));
    }

    private static void statistic() {
        Bijectory house = of(5);
        Check.due("12: the area of the highest one", 25, () -> house.statistic(0, 3, 41));
        Check.due("12: its height", 5, () -> house.statistic(0, 2, 41));
        Check.due("12: the depth of a row to the right", 5, () -> house.statistic(1, 2, 0));
        Check.due("12: its rights", 4, () -> house.statistic(1, 3, 0));
        Check.due("12: inversions", 10, () -> house.statistic(2, 1, 119));
        Check.due("12: fixed", 5, () -> house.statistic(2, 3, 0));
        Check.outside("12: no such family", () -> house.statistic(3, 0, 0));
        Check.outside("12: no such rank", () -> house.statistic(0, 0, 42));
        Check.outside("12: no such rank", () -> house.statistic(2, 0, -1));
        Check.outside("12: no such rank nor statistic", () -> house.statistic(1, 4, 42));
        Check.outside("12: no such family nor statistic", () -> house.statistic(-1, 4, 0));
        Check.badArgument("12: no such statistic", () -> house.statistic(1, 4, 41));
        Check.badArgument("12: no such statistic", () -> house.statistic(2, -1, 119));
    }

    private static void spread() {
        Bijectory house = of(4);
        int[] peaks = {0, 1, 6, 6, 1, 0};
        int[] drops = {1, 11, 11, 1, 0};
        int[] records = {0, 6, 11, 6, 1};
        int[] fixed = {9, 8, 6, 0, 1};
        for (int value = 0; value < 5; value++) {
            int is = value;
            Check.due("13: peaks " + is, peaks[is], () -> house.spread(0, 0, is));
            Check.due("13: drops " + is, drops[is], () -> house.spread(2, 0, is));
            Check.due("13: records " + is, records[is], () -> house.spread(2, 2, is));
            Check.due("13: fixed " + is, fixed[is], () -> house.spread(2, 3, is));
        }
        Check.due("13: area 16", 1, () -> house.spread(0, 3, 16));
        Check.due("13: area 17", 0, () -> house.spread(0, 3, 17));
        Check.due("13: below", 0, () -> house.spread(0, 0, -1));
        Check.due("13: far below", 0, () -> house.spread(2, 0, Integer.MIN_VALUE));
        Check.due("13: far above", 0, () -> house.spread(2, 0, Integer.MAX_VALUE));
        Check.due("13: area 36 of 6", 1, () -> of(6).spread(0, 3, 36));
        Check.outside("13: no such family", () -> house.spread(3, 0, 0));
        Check.outside("13: no such family nor statistic", () -> house.spread(-1, 4, 0));
        Check.badArgument("13: no such statistic", () -> house.spread(0, 4, 0));
        Check.badArgument("13: no such statistic", () -> house.spread(1, -1, 0));
    }

    private static void signs() {
        Bijectory house = of(3);
        int[][] due = {{1, -1, 1, -5}, {-3, -1, -3, -1}, {-2, 0, 0, -2}};
        for (int family = 0; family <= 2; family++) {
            for (int which = 0; which <= 3; which++) {
                int of = family;
                int by = which;
                Check.due("14: signs(" + of + ", " + by + ")", due[of][by], () -> house.signs(of, by));
            }
        }
        Check.outside("14: no such family", () -> house.signs(3, 0));
        Check.outside("14: no such family nor statistic", () -> house.signs(-1, 4));
        Check.badArgument("14: no such statistic", () -> house.signs(2, 4));
        Check.badArgument("14: no such statistic", () -> house.signs(0, -1));
    }

    private static void alike() {
        Bijectory house = of(5);
        Check.due("15: returns and spine", true, () -> house.alike(0, 1, 1, 1));
        Check.due("15: height and depth", false, () -> house.alike(0, 2, 1, 2));
        Check.due("15: drops and records", false, () -> house.alike(2, 0, 2, 2));
        Check.due("15: with itself", true, () -> house.alike(2, 3, 2, 3));
        Check.due("15: peaks and drops", false, () -> house.alike(0, 0, 2, 0));
        Check.due("15: of 1, inversions and rights", true, () -> of(1).alike(2, 1, 1, 3));
        Check.due("15: of 2, drops and rights", true, () -> of(2).alike(2, 0, 1, 3));
        Check.due("15: of 2, drops and peaks", false, () -> of(2).alike(2, 0, 0, 0));
        Check.due("15: of 2, records and peaks", true, () -> of(2).alike(2, 2, 0, 0));
        Check.outside("15: no such family", () -> house.alike(3, 0, 0, 0));
        Check.outside("15: no such family", () -> house.alike(0, 0, 3, 0));
        Check.outside("15: no such family nor statistic", () -> house.alike(0, 4, -1, 0));
        Check.badArgument("15: no such statistic", () -> house.alike(0, 4, 0, 0));
        Check.badArgument("15: no such statistic", () -> house.alike(0, 0, 0, 4));
        Check.badArgument("15: no such statistic", () -> house.alike(0, -1, 0, 0));
        Check.badArgument("15: no such statistic", () -> house.alike(0, 0, 0, -1));
    }

    private static void contains() {
        Bijectory house = of(6);
        Check.due("16: 12 in 123456", 15, () -> house.contains(0, 12));
        Check.due("16: 123 in 123456", 20, () -> house.contains(0, 123));
        Check.due("16: 1234 in 123456", 15, () -> house.contains(0, 1234));
        Check.due("16: 21 in 123456", 0, () -> house.contains(0, 21));
        Check.due("16: 4321 in 654321", 15, () -> house.contains(719, 4321));
        Bijectory four = of(4);
        int rank = four.rank(2, 2413);
        Check.due("16: 2413 in 2413", 1, () -> four.contains(rank, 2413));
        Check.due("16: 3142 in 2413", 0, () -> four.contains(rank, 3142));
        Check.due("16: 231 in 2413", 1, () -> four.contains(rank, 231));
        Check.due("16: 312 in 2413", 1, () -> four.contains(rank, 312));
        Check.due("16: 132 in 2413", 1, () -> four.contains(rank, 132));
        Check.due("16: 213 in 2413", 1, () -> four.contains(rank, 213));
        Check.due("16: 123 in 2413", 0, () -> four.contains(rank, 123));
        Check.due("16: 12 in 2413", 3, () -> four.contains(rank, 12));
        Check.due("16: 21 in 2413", 3, () -> four.contains(rank, 21));
        Check.due("16: a pattern that is longer", 0, () -> of(3).contains(0, 1234));
        Check.due("16: a pattern in 1", 0, () -> of(1).contains(0, 12));
    }

    private static void containsNoPattern() {
        Bijectory house = new Bijectory();
        for (int pattern : new int[] {0, 1, 2, 11, 13, 22, 31, 102, 120, 122, 124, 1123, 1235, 12345, 54321, -21, -123,
            Integer.MIN_VALUE, Integer.MAX_VALUE}) {
            Check.badArgument("16: contains(0, " + pattern + ")", () -> house.contains(0, pattern));
        }
        Check.outside("16: no such rank", () -> house.contains(6, 12));
        Check.outside("16: no such rank", () -> house.contains(-1, 12));
        Check.outside("16: no such rank nor pattern", () -> house.contains(6, 11));
    }

    private static void sorted() {
        int[] once = {1, 2, 5, 14, 42, 132};
        int[] twice = {1, 2, 6, 22, 91, 408};
        for (int size = 1; size <= 6; size++) {
            Bijectory house = of(size);
            Check.due("17: no times, " + size, 1, () -> house.sorted(0));
            Check.due("17: once, " + size, once[size - 1], () -> house.sorted(1));
            Check.due("17: twice, " + size, twice[size - 1], () -> house.sorted(2));
            Check.due("17: at most 6 times, " + size, ORDERS[size - 1], () -> house.sorted(6));
            int all = Math.max(size - 1, 0);
            Check.due("17: at most n - 1 times, " + size, ORDERS[size - 1], () -> house.sorted(all));
            Check.badArgument("17: sorted(7)", () -> house.sorted(7));
            Check.badArgument("17: sorted(-1)", () -> house.sorted(-1));
        }
    }
}
