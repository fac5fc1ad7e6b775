/** Makes houses that the tests ask; none is asked more often than the document promises. */
final class Houses {
    private static final int MOST_CALLS = 512;

    private final int[] steps;
    private final int size;
    private Bijectory house;
    private int calls;

    private Houses(int size, int... steps) {
        this.size = size;
        this.steps = steps;
    }

    /** Of the SIZE, without MAPS. */
    static Bijectory of(int size) {
        Bijectory house = new Bijectory();
        house.size(size);
        return house;
    }

    /** Of the SIZE, with the MAP 0 of these STEPS. */
    static Bijectory with(int size, int... steps) {
        Bijectory house = of(size);
        for (int i = 0; i < steps.length; i++) {
            if (i == 0) {
                house.map(steps[i]);
            } else {
                house.then(0, steps[i]);
            }
        }
        return house;
    }

    /** Many calls on what is one house for the test. */
    static Houses many(int size, int... steps) {
        return new Houses(size, steps);
    }

    /** A house for one call that changes nothing. */
    Bijectory next() {
        if (house == null || calls >= MOST_CALLS) {
            house = with(size, steps);
            calls = 1 + steps.length;
        }
        calls++;
        return house;
    }
}
