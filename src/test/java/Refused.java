/**
 * Calls that are refused. Each is made on a house of its own; behind it, that house answers as a twin does which was
 * told the same and not asked that call. So no house is used for more calls than the document promises.
 */
final class Refused {
    interface Recipe {
        void tell(Bijectory house);
    }

    interface Ask {
        Object of(Bijectory house);
    }

    static final int[] BEYOND_EIGHT = {-1, 8, Integer.MIN_VALUE, Integer.MAX_VALUE};
    private static final String OUTSIDE = "throws.IndexOutOfBoundsException";
    private static final String ARGUMENT = "throws.IllegalArgumentException";
    private static final String STATE = "throws.IllegalStateException";

    private Refused() {
    }

    static void outside(String call, Recipe recipe, Ask ask) {
        refused(OUTSIDE, call, recipe, ask);
    }

    static void argument(String call, Recipe recipe, Ask ask) {
        refused(ARGUMENT, call, recipe, ask);
    }

    static void state(String call, Recipe recipe, Ask ask) {
        refused(STATE, call, recipe, ask);
    }

    /** The call is taken, and answers that; its state is not looked at. */
    static void taken(String call, Object due, Recipe recipe, Ask ask) {
        Bijectory house = of(recipe);
        Check.due(call, due, () -> ask.of(house));
    }

    private static void refused(String exception, String call, Recipe recipe, Ask ask) {
        Bijectory house = of(recipe);
        Bijectory twin = of(recipe);
        Check.due(call, exception, () -> ask.of(house));
        Check.due(call + ", and what the house answers behind it", everything(twin), () -> everything(house));
    }

    static Bijectory of(Recipe recipe) {
        Bijectory house = new Bijectory();
        recipe.tell(house);
        return house;
    }

    // ---- houses

    static void fresh(Bijectory house) {
    }

    /**
     * SIZE 3; MAPS 0 ROLL, 1 LABEL (in a CLAIM), 2 GROW and MIRROR, 3 SORT, 4 INVERT (in two CLAIMS); WALKERS 0 among
     * PATHS, 1 that went from a TREE to an ORDER, 2 among ORDERS; three CLAIMS, one of them REFUTED.
     */
    static void busy(Bijectory house) {
        house.size(2);
        house.map(5);
        house.map(6);
        house.map(0);
        house.then(2, 3);
        house.map(10);
        house.map(8);
        house.claim(4, 2, 2);
        house.claim(1, 3, 0);
        house.walker(2, 21);
        house.size(3);
        house.claim(4, 0, 0);
        house.trial(0);
        house.walker(0, 44);
        house.walker(1, 52);
        house.walker(2, 312);
        house.send(0, 0, 4);
        house.send(1, 1, 1);
        house.send(2, 4, 2);
    }

    static void busyWithEightMaps(Bijectory house) {
        busy(house);
        house.map(7);
        house.map(3);
        house.map(9);
    }

    static void busyWithFourWalkers(Bijectory house) {
        busy(house);
        house.walker(0, 56);
    }

    static void busyWithEightClaims(Bijectory house) {
        busy(house);
        for (int number = 3; number < 8; number++) {
            house.claim(0, 3, 3);
        }
    }

    /** As busy(), but the MAP 2 has six STEPS, GROW and MIRROR and MIRROR and so on, and is TO TREES. */
    static void busyWithSixSteps(Bijectory house) {
        busy(house);
        for (int length = 2; length < 6; length++) {
            house.then(2, 3);
        }
    }

    // ---- all that a house answers

    static String everything(Bijectory house) {
        StringBuilder all = new StringBuilder();
        int maps = house.many(1);
        int walkers = house.many(2);
        for (int what = 0; what <= 6; what++) {
            all.append(house.many(what)).append(' ');
        }
        for (int map = 0; map < maps; map++) {
            tellMap(house, map, all);
        }
        for (int walker = 0; walker < walkers; walker++) {
            for (int what = 0; what <= 4; what++) {
                all.append(house.ofWalker(walker, what)).append(' ');
            }
        }
        for (int claim = 0; claim < house.many(3); claim++) {
            for (int what = 0; what <= 4; what++) {
                all.append(house.ofClaim(claim, what)).append(' ');
            }
        }
        all.append(house.digest()).append('\n');
        tellNext(house, maps, walkers, all);
        return all.toString();
    }

    private static void tellMap(Bijectory house, int map, StringBuilder all) {
        for (int what = 0; what <= 7; what++) {
            all.append(house.ofMap(map, what)).append(' ');
        }
        int objects = house.objects(house.ofMap(map, 0));
        for (int rank = 0; rank < Math.min(objects, 6); rank++) {
            all.append(house.image(map, rank)).append(' ');
        }
        all.append(house.rounds(map)).append(' ').append(house.period(map)).append('\n');
    }

    /** What cannot be asked shows in what the next calls do. */
    private static void tellNext(Bijectory house, int maps, int walkers, StringBuilder all) {
        for (int walker = 0; walker < walkers; walker++) {
            for (int map = 0; map < maps; map++) {
                int sent = walker;
                int along = map;
                all.append(Check.outcome(() -> house.send(sent, along, 1))).append(' ');
            }
            all.append(house.ofWalker(walker, 4)).append('\n');
        }
        for (int map = 0; map < maps; map++) {
            int longer = map;
            all.append(Check.outcome(() -> house.then(longer, 3))).append(' ');
            all.append(Check.outcome(() -> house.then(longer, 9))).append(' ');
        }
        all.append(Check.outcome(() -> house.walker(2, house.unrank(2, 0)))).append(' ');
        all.append(Check.outcome(() -> house.claim(0, 0, 0))).append(' ');
        all.append(Check.outcome(() -> house.map(0))).append(' ');
        all.append(house.digest());
    }
}
