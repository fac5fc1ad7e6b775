/** The edges of promises 9 to 17, line by line: what one asks of objects. */
public final class ObjectsEdgesTest {
    private static final int[] PATH_COUNTS = {1, 1, 2, 5, 14, 42, 132};
    private static final int[] ORDER_COUNTS = {1, 1, 2, 6, 24, 120, 720};
    private static final int[] NO_FAMILIES = {-1, 3, Integer.MIN_VALUE, Integer.MAX_VALUE};
    private static final int[] NO_STATISTICS = {-1, 4, Integer.MIN_VALUE, Integer.MAX_VALUE};
    private static final String NO_FAMILY = "Throws `IndexOutOfBoundsException` if family is not 0 to 2";
    private static final String NO_FAMILY_OR_RANK = NO_FAMILY + ", or there is no such RANK";
    private static final String NO_STATISTIC = "Throws `IllegalArgumentException` if which is not 0 to 3";

    public static void main(String[] args) {
        objects();
        ranks();
        statistics();
        spreads();
        alike();
        contains();
        sorted();
        Sentences.end(9, 10, 11, 12, 13, 14, 15, 16, 17);
    }

    private static int count(int family, int size) {
        return family == 2 ? ORDER_COUNTS[size] : PATH_COUNTS[size];
    }

    private static void ask(String call, int size, Object due, Refused.Ask ask) {
        Refused.taken(call + " of " + size, due, house -> house.size(size), ask);
    }

    // ---- 9

    private static void objects() {
        Sentences.holds(9, "Returns how many OBJECTS of the SIZE it has.", ObjectsEdgesTest::objectCounts);
        Sentences.holds(9, NO_FAMILY, ObjectsEdgesTest::objectsOfNoFamily);
    }

    private static void objectCounts() {
        for (int size = 1; size <= 6; size++) {
            for (int family = 0; family <= 2; family++) {
                int of = family;
                ask("objects(" + of + ")", size, count(of, size), house -> house.objects(of));
            }
        }
        Bijectory house = Houses.of(6);
        house.objects(2);
        house.size(1);
        Check.due("objects(2) of 1 behind 6", 1, () -> house.objects(2));
        house.size(6);
        Check.due("objects(1) of 6 again", 132, () -> house.objects(1));
    }

    private static void objectsOfNoFamily() {
        for (int family : NO_FAMILIES) {
            Refused.outside("objects(" + family + ")", Refused::busy, house -> house.objects(family));
        }
    }

    // ---- 10 and 11

    private static void ranks() {
        Sentences.holds(10, "Returns the CODE.", ObjectsEdgesTest::firstAndLastCode);
        Sentences.holds(10, NO_FAMILY_OR_RANK, ObjectsEdgesTest::unrankOfNoFamily);
        Sentences.holds(10, NO_FAMILY_OR_RANK, ObjectsEdgesTest::unrankOfNoRank);
        Sentences.holds(11, "Returns its RANK", ObjectsEdgesTest::firstAndLastRank);
        Sentences.holds(11, "NONE, if it is no CODE of that FAMILY and the SIZE", ObjectsEdgesTest::rankOfNoCode);
        Sentences.holds(11, NO_FAMILY, ObjectsEdgesTest::rankOfNoFamily);
    }

    private static void firstAndLastCode() {
        ask("unrank(0, 0)", 1, 2, house -> house.unrank(0, 0));
        ask("unrank(2, 0)", 1, 1, house -> house.unrank(2, 0));
        ask("unrank(0, 0)", 6, 2730, house -> house.unrank(0, 0));
        ask("unrank(0, 131)", 6, 4032, house -> house.unrank(0, 131));
        ask("unrank(1, 0)", 6, 2730, house -> house.unrank(1, 0));
        ask("unrank(1, 131)", 6, 4032, house -> house.unrank(1, 131));
        ask("unrank(2, 0)", 6, 123456, house -> house.unrank(2, 0));
        ask("unrank(2, 119)", 6, 165432, house -> house.unrank(2, 119));
        ask("unrank(2, 120)", 6, 213456, house -> house.unrank(2, 120));
        ask("unrank(2, 719)", 6, 654321, house -> house.unrank(2, 719));
    }

    private static void unrankOfNoFamily() {
        for (int family : NO_FAMILIES) {
            Refused.outside("unrank(" + family + ", 0)", Refused::busy, house -> house.unrank(family, 0));
        }
    }

    private static void unrankOfNoRank() {
        for (int size = 1; size <= 6; size++) {
            int of = size;
            for (int family = 0; family <= 2; family++) {
                int in = family;
                int last = count(family, size) - 1;
                for (int rank : new int[] {-1, last + 1, Integer.MIN_VALUE, Integer.MAX_VALUE}) {
                    Refused.outside("unrank(" + in + ", " + rank + ") of " + of, house -> house.size(of),
                        house -> house.unrank(in, rank));
                }
                ask("unrank(" + in + ", " + last + ") and back", of, last,
                    house -> house.rank(in, house.unrank(in, last)));
            }
        }
        // 5 is a RANK of ORDERS of 3, not of PATHS
        Refused.outside("unrank(0, 5)", Refused::busy, house -> house.unrank(0, 5));
        Refused.taken("unrank(2, 5)", 321, Refused::busy, house -> house.unrank(2, 5));
    }

    private static void firstAndLastRank() {
        ask("rank(0, 2)", 1, 0, house -> house.rank(0, 2));
        ask("rank(2, 1)", 1, 0, house -> house.rank(2, 1));
        ask("rank(0, 2730)", 6, 0, house -> house.rank(0, 2730));
        ask("rank(0, 4032)", 6, 131, house -> house.rank(0, 4032));
        ask("rank(1, 4032)", 6, 131, house -> house.rank(1, 4032));
        ask("rank(2, 123456)", 6, 0, house -> house.rank(2, 123456));
        ask("rank(2, 654321)", 6, 719, house -> house.rank(2, 654321));
    }

    private static void rankOfNoCode() {
        for (int code : new int[] {41, 43, 55, 57, 12, 170, 123, 0, -42, Integer.MIN_VALUE, Integer.MAX_VALUE}) {
            ask("rank(0, " + code + ")", 3, -1, house -> house.rank(0, code));
            ask("rank(1, " + code + ")", 3, -1, house -> house.rank(1, code));
        }
        for (int code : new int[] {122, 124, 320, 322, 12, 1234, 42, 0, -123, Integer.MIN_VALUE, Integer.MAX_VALUE}) {
            ask("rank(2, " + code + ")", 3, -1, house -> house.rank(2, code));
        }
        Bijectory house = Houses.of(3);
        Check.due("rank(2, 123) of 3", 0, () -> house.rank(2, 123));
        house.size(4);
        Check.due("rank(2, 123) of 4", -1, () -> house.rank(2, 123));
    }

    private static void rankOfNoFamily() {
        for (int family : NO_FAMILIES) {
            Refused.outside("rank(" + family + ", 42)", Refused::busy, house -> house.rank(family, 42));
            Refused.outside("rank(" + family + ", 0)", Refused::busy, house -> house.rank(family, 0));
        }
    }

    // ---- 12

    private static void statistics() {
        Sentences.holds(12, "Returns its statistic.", ObjectsEdgesTest::firstAndLastStatistic);
        Sentences.holds(12, NO_FAMILY_OR_RANK, ObjectsEdgesTest::statisticOfNoFamily);
        Sentences.holds(12, NO_FAMILY_OR_RANK, ObjectsEdgesTest::statisticOfNoRank);
        Sentences.holds(12, NO_STATISTIC, ObjectsEdgesTest::noStatistic);
    }

    private static void firstAndLastStatistic() {
        ask("statistic(0, 0, 0)", 6, 6, house -> house.statistic(0, 0, 0));
        ask("statistic(0, 3, 131)", 6, 36, house -> house.statistic(0, 3, 131));
        ask("statistic(1, 0, 0)", 6, 1, house -> house.statistic(1, 0, 0));
        ask("statistic(1, 3, 131)", 6, 0, house -> house.statistic(1, 3, 131));
        ask("statistic(2, 0, 719)", 6, 5, house -> house.statistic(2, 0, 719));
        ask("statistic(2, 1, 719)", 6, 15, house -> house.statistic(2, 1, 719));
        ask("statistic(2, 3, 0)", 6, 6, house -> house.statistic(2, 3, 0));
        ask("statistic(2, 0, 0)", 1, 0, house -> house.statistic(2, 0, 0));
    }

    private static void statisticOfNoFamily() {
        for (int family : NO_FAMILIES) {
            Refused.outside("statistic(" + family + ", 0, 0)", Refused::busy, house -> house.statistic(family, 0, 0));
        }
    }

    private static void statisticOfNoRank() {
        for (int size = 1; size <= 6; size++) {
            int of = size;
            for (int family = 0; family <= 2; family++) {
                int in = family;
                int count = count(family, size);
                for (int rank : new int[] {-1, count, Integer.MIN_VALUE, Integer.MAX_VALUE}) {
                    Refused.outside("statistic(" + in + ", 0, " + rank + ") of " + of, house -> house.size(of),
                        house -> house.statistic(in, 0, rank));
                }
            }
        }
    }

    private static void noStatistic() {
        for (int which : NO_STATISTICS) {
            for (int family = 0; family <= 2; family++) {
                int of = family;
                Refused.argument("statistic(" + of + ", " + which + ", 0)", Refused::busy,
                    house -> house.statistic(of, which, 0));
            }
        }
    }

    // ---- 13 and 14

    private static void spreads() {
        Sentences.holds(13, "Returns how many OBJECTS of the SIZE have that.", ObjectsEdgesTest::spreadOfAnyNumber);
        Sentences.holds(13, NO_FAMILY, ObjectsEdgesTest::spreadOfNoFamily);
        Sentences.holds(13, NO_STATISTIC, ObjectsEdgesTest::spreadOfNoStatistic);
        Sentences.holds(14, "Returns the sum of SIGNS of all OBJECTS of the SIZE.", ObjectsEdgesTest::signs);
        Sentences.holds(14, NO_FAMILY, ObjectsEdgesTest::signsOfNoFamily);
        Sentences.holds(14, NO_STATISTIC, ObjectsEdgesTest::signsOfNoStatistic);
    }

    private static void spreadOfAnyNumber() {
        // "value: a number" is not refused, whatever it is
        for (int value : new int[] {-1, -2, 37, 38, 64, 720, 4096, Integer.MIN_VALUE, Integer.MAX_VALUE}) {
            for (int family = 0; family <= 2; family++) {
                for (int which = 0; which <= 3; which++) {
                    int of = family;
                    int by = which;
                    ask("spread(" + of + ", " + by + ", " + value + ")", 6, 0, house -> house.spread(of, by, value));
                }
            }
        }
        ask("spread(0, 3, 36)", 6, 1, house -> house.spread(0, 3, 36));
        ask("spread(0, 3, 6)", 6, 1, house -> house.spread(0, 3, 6));
        ask("spread(2, 3, 0)", 6, 265, house -> house.spread(2, 3, 0));
        ask("spread(2, 1, 15)", 6, 1, house -> house.spread(2, 1, 15));
        ask("spread(2, 1, 0)", 1, 1, house -> house.spread(2, 1, 0));
        ask("spread(2, 3, 1)", 1, 1, house -> house.spread(2, 3, 1));
        ask("spread(2, 3, 0)", 1, 0, house -> house.spread(2, 3, 0));
    }

    private static void spreadOfNoFamily() {
        for (int family : NO_FAMILIES) {
            Refused.outside("spread(" + family + ", 0, 1)", Refused::busy, house -> house.spread(family, 0, 1));
        }
    }

    private static void spreadOfNoStatistic() {
        for (int which : NO_STATISTICS) {
            Refused.argument("spread(0, " + which + ", 1)", Refused::busy, house -> house.spread(0, which, 1));
            Refused.argument("spread(2, " + which + ", -1)", Refused::busy, house -> house.spread(2, which, -1));
        }
    }

    private static void signs() {
        ask("signs(1, 3)", 1, 1, house -> house.signs(1, 3));
        ask("signs(1, 0)", 1, -1, house -> house.signs(1, 0));
        ask("signs(0, 3), all alike", 6, 132, house -> house.signs(0, 3));
        ask("signs(2, 1), as many of each", 6, 0, house -> house.signs(2, 1));
    }

    private static void signsOfNoFamily() {
        for (int family : NO_FAMILIES) {
            Refused.outside("signs(" + family + ", 0)", Refused::busy, house -> house.signs(family, 0));
        }
    }

    private static void signsOfNoStatistic() {
        for (int which : NO_STATISTICS) {
            Refused.argument("signs(0, " + which + ")", Refused::busy, house -> house.signs(0, which));
            Refused.argument("signs(2, " + which + ")", Refused::busy, house -> house.signs(2, which));
        }
    }

    // ---- 15

    private static void alike() {
        Sentences.holds(15, "Returns whether both have the same spread() for each number.",
            ObjectsEdgesTest::alikeForEachNumber);
        Sentences.holds(15, "Throws `IndexOutOfBoundsException` if one or other is not 0 to 2",
            ObjectsEdgesTest::alikeOfNoFamily);
        Sentences.holds(15, "Throws `IllegalArgumentException` if which or that is not 0 to 3",
            ObjectsEdgesTest::alikeOfNoStatistic);
    }

    private static void alikeForEachNumber() {
        for (int size = 1; size <= 6; size++) {
            ask("alike(0, 1, 1, 1)", size, true, house -> house.alike(0, 1, 1, 1));
            ask("alike(2, 1, 2, 1)", size, true, house -> house.alike(2, 1, 2, 1));
            ask("alike(0, 3, 0, 3)", size, true, house -> house.alike(0, 3, 0, 3));
        }
        // of the least number alone, or of the greatest alone, not alike: PEAKS 1, 2 and AREA 2, 4; DEPTH 2, 2
        ask("alike(0, 0, 0, 3)", 1, true, house -> house.alike(0, 0, 0, 3));
        ask("alike(0, 0, 0, 3)", 2, false, house -> house.alike(0, 0, 0, 3));
        ask("alike(0, 3, 0, 0)", 2, false, house -> house.alike(0, 3, 0, 0));
        ask("alike(0, 0, 1, 2)", 2, false, house -> house.alike(0, 0, 1, 2));
        // RETURNS 1, 2, 3 of 2, 2, 1 PATHS; INVERSIONS 0 of one ORDER, and 1, 2, 3 of 2, 2, 1: 0 alone is not alike
        ask("alike(0, 1, 2, 1)", 3, false, house -> house.alike(0, 1, 2, 1));
        ask("alike(2, 1, 0, 1)", 3, false, house -> house.alike(2, 1, 0, 1));
        // DROPS 0 and 1 at one OBJECT each, PEAKS 1 and 2
        ask("alike(2, 0, 0, 0)", 2, false, house -> house.alike(2, 0, 0, 0));
        ask("alike(2, 0, 1, 3)", 2, true, house -> house.alike(2, 0, 1, 3));
        // FIXED 0 and RECORDS 1: two ORDERS of 3 each; as many OBJECTS in all, and yet not alike
        ask("alike(2, 3, 2, 2)", 3, false, house -> house.alike(2, 3, 2, 2));
        ask("alike(0, 1, 2, 2)", 3, false, house -> house.alike(0, 1, 2, 2));
    }

    private static void alikeOfNoFamily() {
        for (int family : NO_FAMILIES) {
            Refused.outside("alike(" + family + ", 0, 0, 0)", Refused::busy, house -> house.alike(family, 0, 0, 0));
            Refused.outside("alike(0, 0, " + family + ", 0)", Refused::busy, house -> house.alike(0, 0, family, 0));
            Refused.outside("alike(both)", Refused::busy, house -> house.alike(family, 0, family, 0));
        }
    }

    private static void alikeOfNoStatistic() {
        for (int which : NO_STATISTICS) {
            Refused.argument("alike(0, " + which + ", 0, 0)", Refused::busy, house -> house.alike(0, which, 0, 0));
            Refused.argument("alike(0, 0, 0, " + which + ")", Refused::busy, house -> house.alike(0, 0, 0, which));
            Refused.argument("alike(both)", Refused::busy, house -> house.alike(2, which, 2, which));
            // not alike of themselves, and refused all the same
            Refused.argument("alike(0, 0, 2, " + which + ")", Refused::busy, house -> house.alike(0, 0, 2, which));
        }
    }

    // ---- 16

    private static void contains() {
        Sentences.holds(16, "the decimal digits of an order of 1 to m, for m of 2 to 4",
            ObjectsEdgesTest::containsAllPatterns);
        Sentences.holds(16, "Returns in how many sets of m places its numbers stand, from the left",
            ObjectsEdgesTest::containsInSoManySets);
        Sentences.holds(16, "Throws `IndexOutOfBoundsException` if there is no such RANK",
            ObjectsEdgesTest::containsOfNoRank);
        Sentences.holds(16, "Throws `IllegalArgumentException` if pattern is no such number",
            ObjectsEdgesTest::containsNoPattern);
    }

    private static boolean isPattern(int number) {
        String digits = String.valueOf(number);
        boolean is = digits.length() >= 2 && digits.length() <= 4;
        for (int size = 1; size <= digits.length(); size++) {
            is &= digits.indexOf((char) ('0' + size)) >= 0;
        }
        return is;
    }

    private static void containsAllPatterns() {
        Houses houses = Houses.many(4);
        for (int pattern = -25; pattern <= 12400; pattern++) {
            int is = pattern;
            Check.due("contains(0, " + pattern + ") is taken", isPattern(pattern), () -> takes(houses.next(), is));
        }
    }

    private static boolean takes(Bijectory house, int pattern) {
        return !"throws.IllegalArgumentException".equals(Check.outcome(() -> house.contains(0, pattern)));
    }

    private static void containsInSoManySets() {
        // m above the SIZE: no sets of m places; m the SIZE: one; all of them; none of them
        ask("contains(0, 12)", 1, 0, house -> house.contains(0, 12));
        ask("contains(0, 4321)", 1, 0, house -> house.contains(0, 4321));
        ask("contains(0, 123)", 2, 0, house -> house.contains(0, 123));
        ask("contains(0, 1234)", 3, 0, house -> house.contains(0, 1234));
        ask("contains(0, 12)", 2, 1, house -> house.contains(0, 12));
        ask("contains(1, 12)", 2, 0, house -> house.contains(1, 12));
        ask("contains(1, 21)", 2, 1, house -> house.contains(1, 21));
        ask("contains(0, 123)", 3, 1, house -> house.contains(0, 123));
        ask("contains(0, 1234)", 4, 1, house -> house.contains(0, 1234));
        ask("contains(23, 4321)", 4, 1, house -> house.contains(23, 4321));
        ask("contains(0, 12)", 6, 15, house -> house.contains(0, 12));
        ask("contains(0, 123)", 6, 20, house -> house.contains(0, 123));
        ask("contains(0, 1234)", 6, 15, house -> house.contains(0, 1234));
        ask("contains(719, 4321)", 6, 15, house -> house.contains(719, 4321));
        ask("contains(719, 12)", 6, 0, house -> house.contains(719, 12));
        // 231 is not 312: 2413 has the one at 2 4 1 and the other at 4 1 3
        ask("contains(10, 231)", 4, 1, house -> house.contains(house.rank(2, 2413), 231));
        ask("contains(10, 312)", 4, 1, house -> house.contains(house.rank(2, 2413), 312));
        ask("contains(3, 231)", 3, 1, house -> house.contains(house.rank(2, 231), 231));
        ask("contains(3, 312)", 3, 0, house -> house.contains(house.rank(2, 231), 312));
        ask("contains(10, 2413)", 4, 1, house -> house.contains(house.rank(2, 2413), 2413));
        ask("contains(10, 3142)", 4, 0, house -> house.contains(house.rank(2, 2413), 3142));
    }

    private static void containsOfNoRank() {
        for (int size = 1; size <= 6; size++) {
            int of = size;
            int last = ORDER_COUNTS[size] - 1;
            for (int rank : new int[] {-1, last + 1, Integer.MIN_VALUE, Integer.MAX_VALUE}) {
                Refused.outside("contains(" + rank + ", 12) of " + of, house -> house.size(of),
                    house -> house.contains(rank, 12));
            }
            ask("contains(" + last + ", 21)", of, of * (of - 1) / 2, house -> house.contains(last, 21));
        }
    }

    private static void containsNoPattern() {
        // m of 0, 1 and 5; a digit too small, too great, twice; below 0; what wraps around
        for (int pattern : new int[] {0, 1, 12345, 54321, 10, 20, 13, 31, 11, 22, 120, 102, 124, 421, 122, 221, 111,
            1230, 1235, 5321, 1223, 4432, 1111, -12, -21, -123, -4321, 100012, 1000012, Integer.MIN_VALUE,
            Integer.MAX_VALUE}) {
            Refused.argument("contains(0, " + pattern + ")", Refused::busy, house -> house.contains(0, pattern));
        }
    }

    // ---- 17

    private static void sorted() {
        Sentences.holds(17, "Returns how many ORDERS of the SIZE are in order (1, 2 and so on) behind so many times "
            + "SORT at most.", ObjectsEdgesTest::sortedAtMost);
        Sentences.holds(17, "Throws `IllegalArgumentException` if times is not 0 to 6", ObjectsEdgesTest::notSoOften);
    }

    private static void sortedAtMost() {
        int[][] due = {
            {1, 1, 1, 1, 1, 1, 1}, {1, 2, 2, 2, 2, 2, 2}, {1, 5, 6, 6, 6, 6, 6}, {1, 14, 22, 24, 24, 24, 24}
        };
        for (int size = 1; size <= 4; size++) {
            for (int times = 0; times <= 6; times++) {
                int so = times;
                ask("sorted(" + so + ")", size, due[size - 1][so], house -> house.sorted(so));
            }
        }
        for (int size = 1; size <= 6; size++) {
            int enough = size - 1;
            ask("sorted(0)", size, 1, house -> house.sorted(0));
            ask("sorted(" + enough + ")", size, ORDER_COUNTS[size], house -> house.sorted(enough));
            ask("sorted(6)", size, ORDER_COUNTS[size], house -> house.sorted(6));
        }
        // the 24 ORDERS of 6 that end in 6, 1 need five times
        ask("sorted(4)", 6, 696, house -> house.sorted(4));
    }

    private static void notSoOften() {
        for (int times : new int[] {-1, 7, Integer.MIN_VALUE, Integer.MAX_VALUE}) {
            Refused.argument("sorted(" + times + ")", Refused::busy, house -> house.sorted(times));
        }
    }
}
