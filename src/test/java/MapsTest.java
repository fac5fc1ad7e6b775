/** Promises 18 to 24: what one asks of maps. */
public final class MapsTest {
    public static void main(String[] args) {
        ofMap();
        ofMapOfSizes();
        imageAndSource();
        roundsAndPeriod();
        against();
        cancels();
        Check.end();
    }

    private static Bijectory with(int size, int... steps) {
        Bijectory house = new Bijectory();
        house.size(size);
        house.map(steps[0]);
        for (int i = 1; i < steps.length; i++) {
            house.then(0, steps[i]);
        }
        return house;
    }

    private static void factsAre(String told, Bijectory house, int... due) {
        for (int what = 0; what < due.length; what++) {
            int of = what;
            Check.due("18: " + told + ", ofMap(0, " + of + ")", due[of], () -> house.ofMap(0, of));
        }
    }

    private static void ofMap() {
        factsAre("SHAPE", with(3, 7), 2, 1, 1, 0, 1, 5, -1, 0);
        factsAre("LABEL", with(3, 6), 1, 2, 1, 1, 0, 5, -1, 0);
        factsAre("SHAPE, LABEL", with(3, 7, 6), 2, 2, 2, 0, 0, 5, 5, 0);
        factsAre("LABEL, SHAPE", with(3, 6, 7), 1, 1, 2, 1, 1, 5, 5, 0);
        factsAre("SORT", with(3, 10), 2, 2, 1, 0, 0, 2, 1, 0);
        factsAre("MIRROR", with(3, 3), 1, 1, 1, 1, 1, 5, 1, 0);
        factsAre("GRAFT", with(3, 1), 0, 1, 1, 1, 1, 5, -1, 0);
        factsAre("ROLL, all six times", with(3, 5, 5, 5, 5, 5, 5), 0, 0, 6, 1, 1, 5, 5, 0);
        Bijectory house = with(3, 9);
        house.claim(0, 0, 0);
        factsAre("TURN in a claim", house, 2, 2, 1, 1, 1, 6, 0, 1);
        Check.outside("18: no such map", () -> house.ofMap(1, 0));
        Check.outside("18: no such map", () -> house.ofMap(-1, 0));
        Check.outside("18: no such map nor what", () -> house.ofMap(1, 8));
        Check.badArgument("18: ofMap(0, 8)", () -> house.ofMap(0, 8));
        Check.badArgument("18: ofMap(0, -1)", () -> house.ofMap(0, -1));
    }

    private static void ofMapOfSizes() {
        Bijectory house = with(1, 7);
        factsAre("SHAPE of 1", house, 2, 1, 1, 1, 1, 1, -1, 0);
        house.size(2);
        factsAre("SHAPE of 2", house, 2, 1, 1, 1, 1, 2, -1, 0);
        house.size(6);
        factsAre("SHAPE of 6", house, 2, 1, 1, 0, 1, 132, -1, 0);
        house.size(1);
        factsAre("SHAPE of 1 again", house, 2, 1, 1, 1, 1, 1, -1, 0);
    }

    private static void imageAndSource() {
        Bijectory house = with(3, 10);
        int[] images = {0, 0, 0, 2, 0, 0};
        int[] sources = {0, -1, 3, -1, -1, -1};
        for (int rank = 0; rank < 6; rank++) {
            int at = rank;
            Check.due("19: image(0, " + at + ") by SORT", images[at], () -> house.image(0, at));
            Check.due("20: source(0, " + at + ") by SORT", sources[at], () -> house.source(0, at));
        }
        Bijectory shapes = with(3, 7);
        Check.due("19: image(0, 5) by SHAPE", 0, () -> shapes.image(0, 5));
        Check.outside("19: image(0, 6) by SHAPE", () -> shapes.image(0, 6));
        Check.outside("19: image(0, -1) by SHAPE", () -> shapes.image(0, -1));
        Check.outside("19: no such map", () -> shapes.image(1, 0));
        Check.outside("19: no such map", () -> shapes.image(-1, 0));
        Check.due("20: source(0, 2) by SHAPE, the smallest one", 1, () -> shapes.source(0, 2));
        Check.due("20: source(0, 4) by SHAPE", 0, () -> shapes.source(0, 4));
        Check.outside("20: source(0, 5) by SHAPE", () -> shapes.source(0, 5));
        Check.outside("20: source(0, -1) by SHAPE", () -> shapes.source(0, -1));
        Check.outside("20: no such map", () -> shapes.source(1, 0));
        Check.outside("20: no such map", () -> shapes.source(-1, 0));
        Bijectory both = with(3, 5, 0, 3, 6, 9);
        // 42 to 52 by ROLL; a tree of 52; MIRROR makes it 44; LABEL makes that 312; TURN 213
        Check.due("19: five steps", 2, () -> both.image(0, 0));
        Check.due("20: five steps", 0, () -> both.source(0, 2));
    }

    private static void turns(String told, Bijectory house, int rounds, long period) {
        Check.due("21: rounds(0), " + told, rounds, () -> house.rounds(0));
        Check.due("22: period(0), " + told, period, () -> house.period(0));
    }

    private static void roundsAndPeriod() {
        turns("ROLL", with(3, 5), 2, 6);
        Check.due("22: period(0), ROLL of 6", 12L, () -> with(6, 5).period(0));
        turns("MIRROR", with(3, 3), 3, 2);
        turns("nothing changed", with(3, 0, 2), 5, 1);
        turns("of 1", with(1, 8), 1, 1);
        turns("INVERT", with(3, 8), 5, 2);
        turns("INVERT, TURN of 6", with(6, 8, 9), 192, 4);
        turns("GRAFT, READ of 5", with(5, 1, 2), 10, 30);
        turns("not perfect", with(3, 10), -1, -1);
        turns("SORT of 1 is perfect", with(1, 10), 1, 1);
        turns("SORT of 2 is not", with(2, 10), -1, -1);
        turns("no move", with(3, 0), -1, -1);
        Bijectory house = with(3, 3);
        Check.outside("21: no such map", () -> house.rounds(1));
        Check.outside("21: no such map", () -> house.rounds(-1));
        Check.outside("22: no such map", () -> house.period(1));
        Check.outside("22: no such map", () -> house.period(-1));
    }

    private static void against() {
        Bijectory grow = with(3, 0);
        Check.due("23: peaks and tips by GROW", 0, () -> grow.against(0, 0, 0));
        Check.due("23: heights and spines by GROW", 1, () -> grow.against(0, 2, 1));
        Check.due("23: returns and spines by GRAFT", -1, () -> with(3, 1).against(0, 1, 1));
        Check.due("23: peaks and returns, nothing changed", 3, () -> with(3, 0, 2).against(0, 0, 1));
        Bijectory turn = with(3, 9);
        Check.due("23: fixed by TURN", 0, () -> turn.against(0, 3, 3));
        Check.due("23: drops by INVERT are kept for 3", -1, () -> with(3, 8).against(0, 0, 0));
        Check.due("23: records by INVERT", 3, () -> with(3, 8).against(0, 2, 2));
        Check.due("23: inversions by INVERT", -1, () -> with(6, 8).against(0, 1, 1));
        Check.due("23: rights are drops by LABEL", -1, () -> with(6, 6).against(0, 3, 0));
        Check.due("23: spine is records by LABEL", -1, () -> with(6, 6).against(0, 1, 2));
        Check.due("23: peaks and areas of 2, the last one alone", 1, () -> with(2, 0, 2).against(0, 0, 3));
        Check.outside("23: no such map", () -> grow.against(1, 0, 0));
        Check.outside("23: no such map nor statistic", () -> grow.against(-1, 4, 0));
        Check.badArgument("23: against(0, 4, 0)", () -> grow.against(0, 4, 0));
        Check.badArgument("23: against(0, 0, 4)", () -> grow.against(0, 0, 4));
        Check.badArgument("23: against(0, -1, 0)", () -> grow.against(0, -1, 0));
        Check.badArgument("23: against(0, 0, -1)", () -> grow.against(0, 0, -1));
    }

    private static void cancels() {
        Check.due("24: drops by TURN of 3: fixed ones are none", false, () -> with(3, 9).cancels(0, 0));
        Check.due("24: inversions by TURN of 2", true, () -> with(2, 9).cancels(0, 1));
        Check.due("24: inversions by TURN of 3", true, () -> with(3, 9).cancels(0, 1));
        Check.due("24: inversions by TURN of 4", false, () -> with(4, 9).cancels(0, 1));
        Check.due("24: nothing moves", true, () -> with(6, 9, 9).cancels(0, 0));
        Check.due("24: nothing moves", true, () -> with(3, 0, 2).cancels(0, 3));
        Check.due("24: no involution", false, () -> with(3, 5).cancels(0, 0));
        Check.due("24: not perfect", false, () -> with(3, 10).cancels(0, 0));
        Check.due("24: no move", false, () -> with(3, 0).cancels(0, 0));
        Check.due("24: no move of 1", false, () -> with(1, 0).cancels(0, 0));
        Bijectory house = with(3, 0);
        Check.outside("24: no such map", () -> house.cancels(1, 0));
        Check.outside("24: no such map nor statistic", () -> house.cancels(-1, 4));
        Check.badArgument("24: cancels(0, 4), though no move", () -> house.cancels(0, 4));
        Check.badArgument("24: cancels(0, -1)", () -> house.cancels(0, -1));
    }
}
