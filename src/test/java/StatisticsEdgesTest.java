/** The edges of the document's section 3: the least and the greatest statistics, SIGNS, what CANCELS and what KEEPS. */
public final class StatisticsEdgesTest {
    private static final int PATHS = 0;
    private static final int TREES = 1;
    private static final int ORDERS = 2;
    private static final int[] CATALAN = {1, 1, 2, 5, 14, 42, 132};
    private static final int[] FACTORIAL = {1, 1, 2, 6, 24, 120, 720};
    private static final int[] NONE_FIXED = {1, 0, 1, 2, 9, 44, 265};
    private static final int[] LEAST_DEPTH = {0, 1, 2, 2, 3, 3, 3};
    private static final int[] SHALLOWEST = {0, 1, 2, 1, 6, 6, 4};

    public static void main(String[] args) {
        told("0 PEAKS: how often d follows u at once", StatisticsEdgesTest::peaks);
        told("1 RETURNS: how often d comes to the ground", StatisticsEdgesTest::returns);
        told("2 HEIGHT: the greatest one", StatisticsEdgesTest::height);
        told("3 AREA: the sum of heights behind all steps", StatisticsEdgesTest::area);
        told("0 TIPS: nodes both of whose subtrees are empty", StatisticsEdgesTest::tips);
        told("on the way from the topmost one (with it), to the left each time", StatisticsEdgesTest::spine);
        told("2 DEPTH: nodes on the longest way down", StatisticsEdgesTest::depth);
        told("3 RIGHTS: nodes whose right subtree is not empty", StatisticsEdgesTest::rights);
        told("0 DROPS: how often a number is followed at once by a smaller one", StatisticsEdgesTest::drops);
        told("1 INVERSIONS: pairs, the greater one of which is to the left", StatisticsEdgesTest::inversions);
        told("2 RECORDS: numbers that are greater than all to their left", StatisticsEdgesTest::records);
        told("3 FIXED: places with their own number", StatisticsEdgesTest::fixed);
        told("The SIGN of an OBJECT by a statistic is 1, if that is even, otherwise -1.", StatisticsEdgesTest::signs);
        told("A MOVE CANCELS by a statistic of its FAMILY, if it is PERFECT", StatisticsEdgesTest::cancelsIfPerfect);
        told("each OBJECT is the IMAGE of its IMAGE", StatisticsEdgesTest::cancelsIfBackAtOnce);
        told("each one that is not its own IMAGE has another SIGN than its IMAGE", StatisticsEdgesTest::otherSigns);
        told("if for each OBJECT the former is that of the latter of its IMAGE", StatisticsEdgesTest::keeps);
        Sentences.end();
    }

    private static void told(String sentence, Runnable test) {
        Sentences.holds(Sentences.TERMS, sentence, test);
    }

    /** The least value and the greatest one, how many have these, and that none has one beside these. */
    private static void ends(int size, int family, int which, int least, int ofLeast, int greatest, int ofGreatest) {
        Bijectory house = Houses.of(size);
        String told = "(" + family + ", " + which + ", ..) of " + size;
        Check.due("spread of the least " + told, ofLeast, () -> house.spread(family, which, least));
        Check.due("spread below the least " + told, 0, () -> house.spread(family, which, least - 1));
        Check.due("spread of the greatest " + told, ofGreatest, () -> house.spread(family, which, greatest));
        Check.due("spread above the greatest " + told, 0, () -> house.spread(family, which, greatest + 1));
    }

    private static void is(int size, int family, int which, int code, int due) {
        Bijectory house = Houses.of(size);
        int rank = house.rank(family, code);
        Check.due("statistic(" + family + ", " + which + ", ..) of " + code, due,
            () -> house.statistic(family, which, rank));
    }

    // ---- of PATHS

    private static void peaks() {
        for (int n = 1; n <= 6; n++) {
            ends(n, PATHS, 0, 1, 1, n, 1);
        }
        // d behind u is one, u behind d is none
        is(1, PATHS, 0, 0b10, 1);
        is(2, PATHS, 0, 0b1100, 1);
        is(2, PATHS, 0, 0b1010, 2);
        is(4, PATHS, 0, 0b11001100, 2);
        is(4, PATHS, 0, 0b11010010, 3);
    }

    private static void returns() {
        for (int n = 1; n <= 6; n++) {
            ends(n, PATHS, 1, 1, CATALAN[n - 1], n, 1);
        }
        // the last step is always one; a d that stays above is none
        is(1, PATHS, 1, 0b10, 1);
        is(3, PATHS, 1, 0b110100, 1);
        is(3, PATHS, 1, 0b110010, 2);
    }

    private static void height() {
        for (int n = 1; n <= 6; n++) {
            ends(n, PATHS, 2, 1, 1, n, 1);
        }
        is(3, PATHS, 2, 0b101100, 2);
        is(4, PATHS, 2, 0b11100010, 3);
    }

    private static void area() {
        for (int n = 1; n <= 6; n++) {
            ends(n, PATHS, 3, n, 1, n * n, 1);
        }
        is(1, PATHS, 3, 0b10, 1);
        is(2, PATHS, 3, 0b1010, 2);
        is(2, PATHS, 3, 0b1100, 4);
        is(3, PATHS, 3, 0b110100, 7);
    }

    // ---- of TREES, by the CODES of the PATHS that GROW makes them of

    private static void tips() {
        int[] most = {0, 1, 1, 2, 2, 3, 3};
        int[] ofMost = {0, 1, 2, 1, 6, 2, 20};
        for (int n = 1; n <= 6; n++) {
            ends(n, TREES, 0, 1, 1 << n - 1, most[n], ofMost[n]);
        }
        // a node with one subtree is none
        is(1, TREES, 0, 0b10, 1);
        is(2, TREES, 0, 0b1010, 1);
        is(2, TREES, 0, 0b1100, 1);
        is(3, TREES, 0, 0b110010, 2);
    }

    private static void spine() {
        for (int n = 1; n <= 6; n++) {
            ends(n, TREES, 1, 1, CATALAN[n - 1], n, 1);
        }
        // with the topmost one; not to the right, nor to the left behind it
        is(1, TREES, 1, 0b10, 1);
        is(2, TREES, 1, 0b1010, 1);
        is(3, TREES, 1, 0b101100, 1);
        is(3, TREES, 1, 0b110100, 2);
    }

    private static void depth() {
        for (int n = 1; n <= 6; n++) {
            ends(n, TREES, 2, LEAST_DEPTH[n], SHALLOWEST[n], n, 1 << n - 1);
        }
        is(1, TREES, 2, 0b10, 1);
        is(3, TREES, 2, 0b110010, 2);
        is(3, TREES, 2, 0b101100, 3);
        is(4, TREES, 2, 0b11100010, 3);
        is(4, TREES, 2, 0b10101010, 4);
    }

    private static void rights() {
        for (int n = 1; n <= 6; n++) {
            ends(n, TREES, 3, 0, 1, n - 1, 1);
        }
        is(1, TREES, 3, 0b10, 0);
        is(2, TREES, 3, 0b1010, 1);
        is(2, TREES, 3, 0b1100, 0);
        is(3, TREES, 3, 0b110010, 1);
    }

    // ---- of ORDERS

    private static void drops() {
        for (int n = 1; n <= 6; n++) {
            ends(n, ORDERS, 0, 0, 1, n - 1, 1);
        }
        // 2 is followed by 1, but not at once
        is(3, ORDERS, 0, 231, 1);
        is(4, ORDERS, 0, 2413, 1);
        is(4, ORDERS, 0, 4132, 2);
    }

    private static void inversions() {
        for (int n = 1; n <= 6; n++) {
            ends(n, ORDERS, 1, 0, 1, n * (n - 1) / 2, 1);
        }
        is(3, ORDERS, 1, 231, 2);
        is(3, ORDERS, 1, 132, 1);
        is(4, ORDERS, 1, 4123, 3);
    }

    private static void records() {
        for (int n = 1; n <= 6; n++) {
            ends(n, ORDERS, 2, 1, FACTORIAL[n - 1], n, 1);
        }
        // the first one always is one, as none is to its left
        is(1, ORDERS, 2, 1, 1);
        is(3, ORDERS, 2, 321, 1);
        is(3, ORDERS, 2, 213, 2);
        is(4, ORDERS, 2, 2143, 2);
        is(4, ORDERS, 2, 3124, 2);
    }

    private static void fixed() {
        for (int n = 1; n <= 6; n++) {
            int size = n;
            ends(n, ORDERS, 3, n == 1 ? 1 : 0, n == 1 ? 1 : NONE_FIXED[n], n, 1);
            if (n > 1) {
                Check.due("all but one FIXED of " + n, 0, () -> Houses.of(size).spread(ORDERS, 3, size - 1));
            }
        }
        is(3, ORDERS, 3, 231, 0);
        is(3, ORDERS, 3, 213, 1);
        is(6, ORDERS, 3, 213456, 4);
        is(6, ORDERS, 3, 623451, 4);
    }

    // ---- SIGNS, and what a MAP does to statistics

    private static void signs() {
        // nothing is even; of the SIZE 1 each statistic is 1, but for RIGHTS, DROPS and INVERSIONS, which are 0
        int[][] ofOne = {{-1, -1, -1, -1}, {-1, -1, -1, 1}, {1, 1, -1, -1}};
        int[][] ofTwo = {{0, 0, 0, 2}, {-2, 0, 2, 0}, {0, 0, 0, 2}};
        for (int family = 0; family <= 2; family++) {
            for (int which = 0; which <= 3; which++) {
                int of = family;
                int by = which;
                Check.due("signs(" + of + ", " + by + ") of 1", ofOne[of][by], () -> Houses.of(1).signs(of, by));
                Check.due("signs(" + of + ", " + by + ") of 2", ofTwo[of][by], () -> Houses.of(2).signs(of, by));
            }
        }
        Check.due("signs(2, 1) of 6", 0, () -> Houses.of(6).signs(2, 1));
        Check.due("signs(0, 3) of 6, all even", 132, () -> Houses.of(6).signs(0, 3));
        Check.due("signs(0, 3) of 5, all odd", -42, () -> Houses.of(5).signs(0, 3));
    }

    private static void cancels(String told, boolean due, Bijectory house, int which) {
        Check.due("cancels(0, " + which + ") of " + told, due, () -> house.cancels(0, which));
    }

    private static void cancelsIfPerfect() {
        // SORT leaves 12 where it is and sends 21, which has another SIGN by DROPS, there too
        cancels("SORT of 2", false, Houses.with(2, 10), 0);
        cancels("SORT of 2", false, Houses.with(2, 10), 1);
        // the other way round, 21 stays and 12 goes there; so the first OBJECT alone is against it
        cancels("SORT and TURN of 2", false, Houses.with(2, 10, 9), 0);
        cancels("SORT and TURN of 2", false, Houses.with(2, 10, 9), 1);
        cancels("SORT of 1", true, Houses.with(1, 10), 0);
        cancels("SHAPE and LABEL of 3, 231 alone moves", false, Houses.with(3, 7, 6), 1);
        cancels("SHAPE and LABEL of 2", true, Houses.with(2, 7, 6), 1);
        cancels("GROW, which is no MOVE", false, Houses.with(1, 0), 0);
    }

    private static void cancelsIfBackAtOnce() {
        // ROLL twice has a round of three, ROLL three times one of two: 42 and 52, with 3 and 2 PEAKS
        cancels("ROLL of 3", false, Houses.with(3, 5), 0);
        cancels("ROLL of 3, twice", false, Houses.with(3, 5, 5), 0);
        cancels("ROLL of 3, three times", true, Houses.with(3, 5, 5, 5), 0);
        cancels("ROLL of 3, six times", true, Houses.with(3, 5, 5, 5, 5, 5, 5), 3);
        // INVERT and TURN has rounds of four, in which the SIGNS by INVERSIONS alternate; of 2 it is TURN alone
        cancels("INVERT and TURN of 3", false, Houses.with(3, 8, 9), 1);
        cancels("INVERT and TURN of 2", true, Houses.with(2, 8, 9), 1);
        cancels("INVERT and TURN of 6", false, Houses.with(6, 8, 9), 1);
    }

    private static void otherSigns() {
        // what is its own IMAGE has the same SIGN, and that is no matter
        for (int which = 0; which <= 3; which++) {
            cancels("nothing, of PATHS of 6", true, Houses.with(6, 0, 2), which);
            cancels("nothing, of ORDERS of 6", true, Houses.with(6, 9, 9), which);
        }
        // INVERT of 3 moves 231 and 312 alone: DROPS 1, 1; INVERSIONS 2, 2; RECORDS 2, 1; FIXED 0, 0
        boolean[] byInvert = {false, false, true, false};
        // TURN of 4 makes 3 - d of d DROPS and 6 - i of i INVERSIONS
        boolean[] byTurn = {true, false, false, false};
        for (int which = 0; which <= 3; which++) {
            cancels("INVERT of 3", byInvert[which], Houses.with(3, 8), which);
            cancels("TURN of 4", byTurn[which], Houses.with(4, 9), which);
        }
        // MIRROR of 3 by SPINE: 44 and 52 have other SIGNS, 42 and 56 (1 and 3) not
        cancels("MIRROR of 3", false, Houses.with(3, 3), 1);
        cancels("MIRROR of 2", true, Houses.with(2, 3), 1);
        cancels("MIRROR of 2 by RIGHTS", true, Houses.with(2, 3), 3);
    }

    private static void against(String told, int due, Bijectory house, int which, int other) {
        Check.due("against(0, " + which + ", " + other + ") of " + told, due,
            () -> house.against(0, which, other));
        house.claim(0, which, other);
        Check.due("trial(0) of " + told, due == -1, () -> house.trial(0));
    }

    private static void keeps() {
        // one OBJECT alone is against it: the last one, one in the middle, the first one
        against("nothing, PEAKS and RETURNS of 3", 3, Houses.with(3, 0, 2), 0, 1);
        against("nothing, PEAKS and AREA of 2", 1, Houses.with(2, 0, 2), 0, 3);
        against("nothing, DROPS and INVERSIONS of 2", -1, Houses.with(2, 9, 9), 0, 1);
        against("nothing, DROPS and INVERSIONS of 3", 3, Houses.with(3, 9, 9), 0, 1);
        against("INVERT, RECORDS of 3", 3, Houses.with(3, 8), 2, 2);
        against("TURN, FIXED of 2", 0, Houses.with(2, 9), 3, 3);
        against("BACKWARD, AREA of 6", -1, Houses.with(6, 4), 3, 3);
        against("LABEL, RIGHTS and DROPS of 6", -1, Houses.with(6, 6), 3, 0);
        against("all of 1", -1, Houses.with(1, 0), 0, 0);
        against("PEAKS and RIGHTS of 1", 0, Houses.with(1, 0), 0, 3);
    }
}
