/** Each STEP and each statistic: those of the SIZE 3 worked out by hand, those of all SIZES by the model. */
public final class StepsTest {
    private static final int[] FROM = {0, 0, 1, 1, 0, 0, 1, 2, 2, 2, 2};
    private static final int[] TO = {1, 1, 0, 1, 0, 0, 2, 1, 2, 2, 2};
    private static final int[][] IMAGES_OF_3 = {
        {0, 1, 2, 3, 4}, {4, 2, 3, 1, 0}, {0, 1, 2, 3, 4}, {4, 3, 2, 1, 0}, {0, 2, 1, 3, 4}, {3, 4, 1, 0, 2},
        {5, 4, 1, 2, 0}, {4, 2, 3, 2, 1, 0}, {0, 1, 2, 4, 3, 5}, {5, 3, 4, 1, 2, 0}, {0, 0, 0, 2, 0, 0}
    };
    private static final int[][] CODES_OF_3 = {
        {42, 44, 50, 52, 56}, {42, 44, 50, 52, 56}, {123, 132, 213, 231, 312, 321}
    };
    private static final int[][][] VALUES_OF_3 = {
        {{3, 2, 2, 2, 1}, {3, 2, 2, 1, 1}, {1, 2, 2, 2, 3}, {3, 5, 5, 7, 9}},
        {{1, 1, 2, 1, 1}, {1, 1, 2, 2, 3}, {3, 3, 2, 3, 3}, {2, 1, 1, 1, 0}},
        {{0, 1, 1, 1, 1, 2}, {0, 1, 1, 2, 2, 3}, {3, 2, 2, 2, 1, 1}, {3, 1, 1, 0, 0, 1}}
    };

    public static void main(String[] args) {
        byHand();
        for (int size = 1; size <= 6; size++) {
            objectsAsInModel(size);
            imagesAsInModel(size);
        }
        Check.end();
    }

    private static void byHand() {
        for (int step = 0; step <= 10; step++) {
            Bijectory house = Houses.with(3, step);
            for (int rank = 0; rank < IMAGES_OF_3[step].length; rank++) {
                int at = rank;
                Check.due("step " + step + ", image of " + rank, IMAGES_OF_3[step][rank], () -> house.image(0, at));
            }
        }
        Bijectory house = new Bijectory();
        for (int family = 0; family <= 2; family++) {
            int of = family;
            for (int rank = 0; rank < CODES_OF_3[family].length; rank++) {
                int at = rank;
                Check.due("unrank(" + of + ", " + at + ")", CODES_OF_3[of][at], () -> house.unrank(of, at));
                Check.due("rank(" + of + ") of " + CODES_OF_3[of][at], at, () -> house.rank(of, CODES_OF_3[of][at]));
                for (int which = 0; which <= 3; which++) {
                    int by = which;
                    Check.due("statistic(" + of + ", " + by + ", " + at + ")", VALUES_OF_3[of][by][at],
                        () -> house.statistic(of, by, at));
                }
            }
        }
    }

    private static void objectsAsInModel(int size) {
        Houses houses = Houses.many(size);
        Model model = new Model();
        model.size(size);
        for (int family = 0; family <= 2; family++) {
            int of = family;
            Check.due(size + ": objects(" + of + ")", model.objects(of), () -> houses.next().objects(of));
            for (int rank = 0; rank < model.objects(of); rank++) {
                int at = rank;
                int code = model.unrank(of, at);
                Check.due(size + ": unrank(" + of + ", " + at + ")", code, () -> houses.next().unrank(of, at));
                Check.due(size + ": rank(" + of + ", " + code + ")", at, () -> houses.next().rank(of, code));
                for (int which = 0; which <= 3; which++) {
                    int by = which;
                    Check.due(size + ": statistic(" + of + ", " + by + ", " + at + ")",
                        model.statistic(of, by, at), () -> houses.next().statistic(of, by, at));
                }
            }
            for (int which = 0; which <= 3; which++) {
                int by = which;
                for (int value = -1; value <= 37; value++) {
                    int is = value;
                    Check.due(size + ": spread(" + of + ", " + by + ", " + is + ")", model.spread(of, by, is),
                        () -> houses.next().spread(of, by, is));
                }
            }
        }
        for (int code = -2; code <= 4100; code++) {
            int is = code;
            Check.due(size + ": rank(0, " + is + ")", model.rank(0, is), () -> houses.next().rank(0, is));
        }
    }

    private static void imagesAsInModel(int size) {
        for (int step = 0; step <= 10; step++) {
            Houses houses = Houses.many(size, step);
            Model model = new Model();
            model.size(size);
            model.map(step);
            String told = size + ", step " + step + ": ";
            for (int rank = 0; rank < model.objects(FROM[step]); rank++) {
                int at = rank;
                Check.due(told + "image(0, " + at + ")", model.image(0, at), () -> houses.next().image(0, at));
            }
            for (int rank = 0; rank < model.objects(TO[step]); rank++) {
                int at = rank;
                Check.due(told + "source(0, " + at + ")", model.source(0, at), () -> houses.next().source(0, at));
            }
            for (int what = 0; what <= 7; what++) {
                int is = what;
                Check.due(told + "ofMap(0, " + is + ")", model.ofMap(0, is), () -> houses.next().ofMap(0, is));
            }
            Check.due(told + "rounds(0)", model.rounds(0), () -> houses.next().rounds(0));
            Check.due(told + "period(0)", model.period(0), () -> houses.next().period(0));
            for (int which = 0; which <= 3; which++) {
                int by = which;
                Check.due(told + "cancels(0, " + by + ")", model.cancels(0, by), () -> houses.next().cancels(0, by));
                for (int other = 0; other <= 3; other++) {
                    int and = other;
                    Check.due(told + "against(0, " + by + ", " + and + ")", model.against(0, by, and),
                        () -> houses.next().against(0, by, and));
                }
            }
        }
    }
}
