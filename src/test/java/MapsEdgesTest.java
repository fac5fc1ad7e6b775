/** The edges of promises 18 to 24, line by line: what one asks of maps. */
public final class MapsEdgesTest {
    private static final int[] PATH_COUNTS = {1, 1, 2, 5, 14, 42, 132};
    private static final int[] ORDER_COUNTS = {1, 1, 2, 6, 24, 120, 720};
    private static final int[] FROM = {0, 0, 1, 1, 0, 0, 1, 2, 2, 2, 2};
    private static final int[] TO = {1, 1, 0, 1, 0, 0, 2, 1, 2, 2, 2};
    private static final int[] NO_STATISTICS = {-1, 4, Integer.MIN_VALUE, Integer.MAX_VALUE};
    /** Of the MAPS of Refused.busy(). */
    private static final int[] NO_MAPS = {-1, 5, 8, Integer.MIN_VALUE, Integer.MAX_VALUE};
    private static final String NO_MAP = "Throws `IndexOutOfBoundsException` if there is no such MAP";
    private static final String NO_MAP_OR_RANK = NO_MAP + ", or RANK";

    public static void main(String[] args) {
        ofMap();
        image();
        source();
        rounds();
        period();
        against();
        cancels();
        Sentences.end(18, 19, 20, 21, 22, 23, 24);
    }

    private static int count(int family, int size) {
        return family == 2 ? ORDER_COUNTS[size] : PATH_COUNTS[size];
    }

    private static void ask(String call, Object due, Refused.Ask ask, int size, int... steps) {
        Bijectory house = Houses.with(size, steps);
        Check.due(call + " of step " + steps[0] + ", SIZE " + size, due, () -> ask.of(house));
    }

    /** No MAP of a few, of none, of eight; the last of eight is one. */
    private static void needsMap(String call, MapAsk ask) {
        for (int map : NO_MAPS) {
            Refused.outside(call + " of MAP " + map, Refused::busy, house -> ask.of(house, map));
        }
        for (int map : Refused.BEYOND_EIGHT) {
            Refused.outside(call + " of MAP " + map + ", of 8", Refused::busyWithEightMaps,
                house -> ask.of(house, map));
        }
        Refused.outside(call + " of MAP 0, of none", Refused::fresh, house -> ask.of(house, 0));
        for (int map : new int[] {0, 7}) {
            Bijectory house = Refused.of(Refused::busyWithEightMaps);
            Check.due(call + " of MAP " + map + " is taken", true,
                () -> !Check.outcome(() -> ask.of(house, map)).startsWith("throws."));
        }
    }

    interface MapAsk {
        Object of(Bijectory house, int map);
    }

    // ---- 18

    private static void ofMap() {
        Sentences.holds(18, "Returns that.", MapsEdgesTest::factsOfAFullMap);
        Sentences.holds(18, "3 1 if it is ONE-TO-ONE, otherwise 0, 4 1 if it is ONTO, otherwise 0, 5 how many IMAGES "
            + "there are that are unlike each other", MapsEdgesTest::oneToOneAndOnto);
        Sentences.holds(18, "6 how many OBJECTS are their own IMAGE (NONE, if it is no MOVE)",
            MapsEdgesTest::ownImages);
        Sentences.holds(18, "7 1 if it is in a CLAIM, otherwise 0", MapsEdgesTest::inAClaim);
        Sentences.holds(18, NO_MAP, () -> needsMap("ofMap(.., 0)", (house, map) -> house.ofMap(map, 0)));
        Sentences.holds(18, "Throws `IllegalArgumentException` if what is not 0 to 7", MapsEdgesTest::ofMapOfNoWhat);
    }

    private static void facts(Bijectory house, int map, int... due) {
        for (int what = 0; what < due.length; what++) {
            int of = what;
            Check.due("ofMap(" + map + ", " + of + ")", due[of], () -> house.ofMap(map, of));
        }
    }

    private static void factsOfAFullMap() {
        facts(Houses.with(3, 5, 0, 3, 6, 9, 10), 0, 0, 2, 6, 0, 0, 2, -1, 0);
        facts(Houses.with(1, 10), 0, 2, 2, 1, 1, 1, 1, 1, 0);
        facts(Houses.with(6, 9), 0, 2, 2, 1, 1, 1, 720, 0, 0);
        Bijectory house = Refused.of(Refused::busyWithEightMaps);
        facts(house, 0, 0, 0, 1, 1, 1, 5, 0, 0);
        facts(house, 7, 2, 2, 1, 1, 1, 6, 0, 0);
    }

    private static void oneToOneAndOnto() {
        // two of the same IMAGE are enough, one that is no IMAGE is enough
        facts(Houses.with(3, 7), 0, 2, 1, 1, 0, 1, 5);
        facts(Houses.with(3, 6), 0, 1, 2, 1, 1, 0, 5);
        facts(Houses.with(2, 7), 0, 2, 1, 1, 1, 1, 2);
        facts(Houses.with(2, 10), 0, 2, 2, 1, 0, 0, 1);
        facts(Houses.with(6, 7), 0, 2, 1, 1, 0, 1, 132);
        facts(Houses.with(6, 6), 0, 1, 2, 1, 1, 0, 132);
    }

    private static void ownImages() {
        ask("ofMap(0, 6)", -1, house -> house.ofMap(0, 6), 1, 0);
        ask("ofMap(0, 6)", -1, house -> house.ofMap(0, 6), 6, 7);
        ask("ofMap(0, 6), none", 0, house -> house.ofMap(0, 6), 2, 9);
        ask("ofMap(0, 6), all", 1, house -> house.ofMap(0, 6), 1, 9);
        ask("ofMap(0, 6), all", 132, house -> house.ofMap(0, 6), 6, 0, 2);
        ask("ofMap(0, 6), all", 720, house -> house.ofMap(0, 6), 6, 9, 9);
        ask("ofMap(0, 6), one", 1, house -> house.ofMap(0, 6), 6, 10);
        ask("ofMap(0, 6), all but one", 5, house -> house.ofMap(0, 6), 3, 7, 6);
        ask("ofMap(0, 6), of a MOVE by way of TREES", 5, house -> house.ofMap(0, 6), 3, 0, 2);
    }

    private static void inAClaim() {
        Bijectory house = Houses.with(3, 9);
        house.map(9);
        Check.due("ofMap(0, 7)", 0, () -> house.ofMap(0, 7));
        house.claim(0, 0, 0);
        Check.due("ofMap(0, 7) in one", 1, () -> house.ofMap(0, 7));
        Check.due("ofMap(1, 7) beside it", 0, () -> house.ofMap(1, 7));
        house.claim(0, 0, 0);
        Check.due("ofMap(0, 7) in two", 1, () -> house.ofMap(0, 7));
        house.size(6);
        Check.due("ofMap(0, 7) for another SIZE", 1, () -> house.ofMap(0, 7));
    }

    private static void ofMapOfNoWhat() {
        for (int what : new int[] {-1, 8, Integer.MIN_VALUE, Integer.MAX_VALUE}) {
            for (int map : new int[] {0, 1, 2}) {
                Refused.argument("ofMap(" + map + ", " + what + ")", Refused::busy, house -> house.ofMap(map, what));
            }
        }
    }

    // ---- 19

    private static void image() {
        Sentences.holds(19, "Returns the RANK of its IMAGE in TO.", MapsEdgesTest::firstAndLastImage);
        Sentences.holds(19, NO_MAP_OR_RANK, () -> needsMap("image(.., 0)", (house, map) -> house.image(map, 0)));
        Sentences.holds(19, NO_MAP_OR_RANK, MapsEdgesTest::imageOfNoRank);
    }

    private static void firstAndLastImage() {
        ask("image(0, 0)", 0, house -> house.image(0, 0), 1, 7);
        ask("image(0, 0)", 131, house -> house.image(0, 0), 6, 7);
        ask("image(0, 719)", 0, house -> house.image(0, 719), 6, 7);
        ask("image(0, 0)", 719, house -> house.image(0, 0), 6, 6);
        ask("image(0, 131)", 0, house -> house.image(0, 131), 6, 6);
        ask("image(0, 0)", 719, house -> house.image(0, 0), 6, 9);
        ask("image(0, 719)", 0, house -> house.image(0, 719), 6, 10);
    }

    private static void imageOfNoRank() {
        for (int step = 0; step <= 10; step++) {
            for (int size = 1; size <= 6; size++) {
                int is = step;
                int last = count(FROM[step], size) - 1;
                for (int rank : new int[] {-1, last + 1, Integer.MIN_VALUE, Integer.MAX_VALUE}) {
                    ask("image(0, " + rank + ")", "throws.IndexOutOfBoundsException", house -> house.image(0, rank),
                        size, is);
                }
                ask("image(0, " + last + ") is one of TO", true, house -> house.image(0, last) >= 0, size, is);
            }
        }
        // RANKS are those of FROM: LABEL of 3 has five, SHAPE six
        Refused.outside("image(1, 5)", Refused::busy, house -> house.image(1, 5));
        Refused.outside("image(1, -1)", Refused::busy, house -> house.image(1, -1));
        ask("image(0, 5)", 0, house -> house.image(0, 5), 3, 7);
    }

    // ---- 20

    private static void source() {
        Sentences.holds(20, "Returns the smallest RANK of those whose IMAGE it is", MapsEdgesTest::smallestSource);
        Sentences.holds(20, "NONE without one", MapsEdgesTest::noSource);
        Sentences.holds(20, NO_MAP_OR_RANK, () -> needsMap("source(.., 0)", (house, map) -> house.source(map, 0)));
        Sentences.holds(20, NO_MAP_OR_RANK, MapsEdgesTest::sourceOfNoRank);
    }

    private static void smallestSource() {
        ask("source(0, 0), of one", 0, house -> house.source(0, 0), 1, 7);
        ask("source(0, 2), of 132 and 231", 1, house -> house.source(0, 2), 3, 7);
        ask("source(0, 0), the last one alone", 5, house -> house.source(0, 0), 3, 7);
        ask("source(0, 4), the first one alone", 0, house -> house.source(0, 4), 3, 7);
        ask("source(0, 0), of all but one", 0, house -> house.source(0, 0), 3, 10);
        ask("source(0, 2), of 231", 3, house -> house.source(0, 2), 3, 10);
        ask("source(0, 719)", 0, house -> house.source(0, 719), 6, 9);
        ask("source(0, 0)", 719, house -> house.source(0, 0), 6, 9);
    }

    private static void noSource() {
        ask("source(0, 3), 231 is no LABEL", -1, house -> house.source(0, 3), 3, 6);
        ask("source(0, 4)", 1, house -> house.source(0, 4), 3, 6);
        ask("source(0, 1)", -1, house -> house.source(0, 1), 2, 10);
        ask("source(0, 5)", -1, house -> house.source(0, 5), 3, 10);
        ask("source(0, 719)", -1, house -> house.source(0, 719), 6, 10);
        ask("source(0, 0), the first one", -1, house -> house.source(0, 0), 3, 10, 9);
    }

    private static void sourceOfNoRank() {
        for (int step = 0; step <= 10; step++) {
            for (int size = 1; size <= 6; size++) {
                int is = step;
                int last = count(TO[step], size) - 1;
                for (int rank : new int[] {-1, last + 1, Integer.MIN_VALUE, Integer.MAX_VALUE}) {
                    ask("source(0, " + rank + ")", "throws.IndexOutOfBoundsException", house -> house.source(0, rank),
                        size, is);
                }
                ask("source(0, " + last + ") is taken", true, house -> house.source(0, last) >= -1, size, is);
            }
        }
        // RANKS are those of TO: LABEL of 3 has six, SHAPE five
        Refused.taken("source(1, 5)", 0, Refused::busy, house -> house.source(1, 5));
        Refused.outside("source(1, 6)", Refused::busy, house -> house.source(1, 6));
        Refused.outside("source(5, 5)", Refused::busyWithEightMaps, house -> house.source(5, 5));
    }

    // ---- 21

    private static void rounds() {
        Sentences.holds(21, "Returns how many rounds a PERFECT MOVE has", MapsEdgesTest::roundsOfMoves);
        Sentences.holds(21, "one that is its own IMAGE is one by itself", MapsEdgesTest::roundsByThemselves);
        Sentences.holds(21, "NONE of another one", MapsEdgesTest::noRounds);
        Sentences.holds(21, NO_MAP, () -> needsMap("rounds(..)", (house, map) -> house.rounds(map)));
    }

    private static void roundsOfMoves() {
        ask("rounds(0), one of two and one of three", 2, house -> house.rounds(0), 3, 5);
        ask("rounds(0), one of two alone", 1, house -> house.rounds(0), 2, 9);
        ask("rounds(0), all of two", 360, house -> house.rounds(0), 6, 9);
        ask("rounds(0), all of four", 192, house -> house.rounds(0), 6, 8, 9);
        ask("rounds(0), of 1", 1, house -> house.rounds(0), 1, 5);
    }

    private static void roundsByThemselves() {
        ask("rounds(0), all", 720, house -> house.rounds(0), 6, 9, 9);
        ask("rounds(0), all", 132, house -> house.rounds(0), 6, 0, 2);
        ask("rounds(0), all but two", 5, house -> house.rounds(0), 3, 8);
        ask("rounds(0), one of five", 3, house -> house.rounds(0), 3, 3);
        ask("rounds(0), the one of 1", 1, house -> house.rounds(0), 1, 10);
    }

    private static void noRounds() {
        // ONE-TO-ONE and ONTO, but no MOVE; a MOVE, but not PERFECT
        for (int size = 1; size <= 6; size++) {
            ask("rounds(0)", -1, house -> house.rounds(0), size, 0);
            ask("period(0)", -1L, house -> house.period(0), size, 0);
        }
        ask("rounds(0)", 1, house -> house.rounds(0), 1, 10);
        ask("rounds(0)", -1, house -> house.rounds(0), 2, 10);
        ask("rounds(0), all but one their own", -1, house -> house.rounds(0), 3, 7, 6);
        ask("rounds(0)", -1, house -> house.rounds(0), 3, 7);
        ask("rounds(0)", -1, house -> house.rounds(0), 6, 10);
    }

    // ---- 22

    private static void period() {
        Sentences.holds(22, "Returns behind how many times a PERFECT MOVE has each OBJECT where it was, for the first "
            + "time", MapsEdgesTest::periods);
        Sentences.holds(22, "(1 at least)", MapsEdgesTest::periodsOfOne);
        Sentences.holds(22, "NONE of another one", MapsEdgesTest::noPeriod);
        Sentences.holds(22, NO_MAP, () -> needsMap("period(..)", (house, map) -> house.period(map)));
    }

    private static void periods() {
        // rounds of two and three: not their sum, nor the longest one alone
        ask("period(0)", 6L, house -> house.period(0), 3, 5);
        // rounds of two and four: not their product
        ask("period(0)", 4L, house -> house.period(0), 6, 8, 9);
        ask("period(0)", 2L, house -> house.period(0), 2, 9);
        ask("period(0)", 30L, house -> house.period(0), 5, 1, 2);
        // the longest one of all MOVES of at most six STEPS and all SIZES
        ask("period(0)", 2072070L, house -> house.period(0), 6, 1, 2, 1, 2, 5, 5);
    }

    private static void periodsOfOne() {
        ask("period(0)", 1L, house -> house.period(0), 6, 9, 9);
        ask("period(0)", 1L, house -> house.period(0), 6, 0, 2);
        ask("period(0)", 1L, house -> house.period(0), 1, 5);
        ask("period(0)", 1L, house -> house.period(0), 1, 10);
        ask("period(0)", 1L, house -> house.period(0), 2, 8);
    }

    private static void noPeriod() {
        ask("period(0)", -1L, house -> house.period(0), 1, 7);
        ask("period(0)", -1L, house -> house.period(0), 2, 10);
        ask("period(0)", -1L, house -> house.period(0), 6, 10);
        ask("period(0)", -1L, house -> house.period(0), 3, 7, 6);
    }

    // ---- 23

    private static void against() {
        Sentences.holds(23, "Returns the smallest RANK of an OBJECT by which it does not KEEP them",
            MapsEdgesTest::smallestAgainst);
        Sentences.holds(23, "NONE, if it KEEPS them", MapsEdgesTest::noneAgainst);
        Sentences.holds(23, NO_MAP, () -> needsMap("against(.., 0, 0)", (house, map) -> house.against(map, 0, 0)));
        Sentences.holds(23, "Throws `IllegalArgumentException` if which or other is not 0 to 3",
            MapsEdgesTest::againstNoStatistic);
    }

    private static void smallestAgainst() {
        ask("against(0, 3, 3), the first one and others", 0, house -> house.against(0, 3, 3), 3, 9);
        ask("against(0, 0, 3), the last one alone", 1, house -> house.against(0, 0, 3), 2, 0, 2);
        ask("against(0, 0, 1), one alone", 3, house -> house.against(0, 0, 1), 3, 0, 2);
        ask("against(0, 2, 2), the smaller one of two", 3, house -> house.against(0, 2, 2), 3, 8);
        // a RANK of FROM, not of TO: 231 has two INVERSIONS, its SHAPE one node with RIGHTS, and the RANK 2
        ask("against(0, 1, 3)", 3, house -> house.against(0, 1, 3), 3, 7);
        ask("against(0, 0, 3)", 0, house -> house.against(0, 0, 3), 1, 0);
    }

    private static void noneAgainst() {
        for (int size = 1; size <= 6; size++) {
            ask("against(0, 3, 0)", -1, house -> house.against(0, 3, 0), size, 6);
            ask("against(0, 1, 2)", -1, house -> house.against(0, 1, 2), size, 6);
            ask("against(0, 0, 3)", -1, house -> house.against(0, 0, 3), size, 7);
            ask("against(0, 3, 3)", -1, house -> house.against(0, 3, 3), size, 4);
            ask("against(0, 1, 1)", -1, house -> house.against(0, 1, 1), size, 8);
        }
        ask("against(0, 0, 0)", -1, house -> house.against(0, 0, 0), 1, 0);
    }

    private static void againstNoStatistic() {
        for (int which : NO_STATISTICS) {
            Refused.argument("against(0, " + which + ", 0)", Refused::busy, house -> house.against(0, which, 0));
            Refused.argument("against(0, 0, " + which + ")", Refused::busy, house -> house.against(0, 0, which));
            Refused.argument("against(0, both)", Refused::busy, house -> house.against(0, which, which));
        }
        Refused.taken("against(0, 3, 3)", 0, Refused::busy, house -> house.against(0, 3, 3));
    }

    // ---- 24

    private static void cancels() {
        Sentences.holds(24, "Returns whether it CANCELS by that", MapsEdgesTest::cancelsByThat);
        Sentences.holds(24, "(false, if it is no MOVE)", MapsEdgesTest::cancelsNoMove);
        Sentences.holds(24, NO_MAP, () -> needsMap("cancels(.., 0)", (house, map) -> house.cancels(map, 0)));
        Sentences.holds(24, "Throws `IllegalArgumentException` if which is not 0 to 3",
            MapsEdgesTest::cancelsNoStatistic);
    }

    private static void cancelsByThat() {
        for (int which = 0; which <= 3; which++) {
            int by = which;
            ask("cancels(0, " + by + "), nothing moves", true, house -> house.cancels(0, by), 1, 9);
            ask("cancels(0, " + by + "), nothing moves", true, house -> house.cancels(0, by), 6, 0, 2);
            ask("cancels(0, " + by + "), not back at once", false, house -> house.cancels(0, by), 3, 5);
            ask("cancels(0, " + by + "), not PERFECT", false, house -> house.cancels(0, by), 6, 10);
            ask("cancels(0, " + by + "), the first one alone is not", false, house -> house.cancels(0, by), 2, 10, 9);
            ask("cancels(0, " + by + "), the last one alone is not", false, house -> house.cancels(0, by), 2, 10);
        }
        ask("cancels(0, 2), two that move", true, house -> house.cancels(0, 2), 3, 8);
        ask("cancels(0, 0), all move", true, house -> house.cancels(0, 0), 6, 9);
        ask("cancels(0, 0), all move", false, house -> house.cancels(0, 0), 5, 9);
        ask("cancels(0, 1), all move", true, house -> house.cancels(0, 1), 6, 9);
        ask("cancels(0, 1), one pair against it", false, house -> house.cancels(0, 1), 3, 3);
    }

    private static void cancelsNoMove() {
        for (int step : new int[] {0, 1, 2, 6, 7}) {
            for (int size = 1; size <= 3; size++) {
                int is = step;
                ask("cancels(0, 0)", false, house -> house.cancels(0, 0), size, is);
                ask("cancels(0, 3)", false, house -> house.cancels(0, 3), size, is);
            }
        }
    }

    private static void cancelsNoStatistic() {
        for (int which : NO_STATISTICS) {
            Refused.argument("cancels(0, " + which + ")", Refused::busy, house -> house.cancels(0, which));
            Refused.argument("cancels(2, " + which + "), no MOVE", Refused::busy, house -> house.cancels(2, which));
            Refused.argument("cancels(3, " + which + "), not PERFECT", Refused::busy,
                house -> house.cancels(3, which));
        }
    }
}
