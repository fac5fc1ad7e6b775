import java.util.Arrays;

/** The edges of the document's section 2: the parts of a STEP that may be empty, and what a MAP may be. */
public final class StepsEdgesTest {
    private static final int PATHS = 0;
    private static final int TREES = 1;
    private static final int ORDERS = 2;
    private static final int[] FROM = {0, 0, 1, 1, 0, 0, 1, 2, 2, 2, 2};
    private static final int[] TO = {1, 1, 0, 1, 0, 0, 2, 1, 2, 2, 2};
    private static final int[] THE_ONE_OF_SIZE_1 = {2, 2, 1};

    public static void main(String[] args) {
        told("A and B are parts that are PATHS by themselves, maybe empty", StepsEdgesTest::sizeOne);
        told("an empty one is an empty TREE", StepsEdgesTest::growOfEmpty);
        told("u A d B, where d is the first one that is back on the ground", StepsEdgesTest::growAtFirstReturn);
        told("B u A d, where u is the last one that leaves the ground", StepsEdgesTest::graftAtLastLeave);
        told("the PATH which GROW makes that TREE of", StepsEdgesTest::read);
        told("each left and right subtree are exchanged, at all nodes", StepsEdgesTest::mirror);
        told("the steps from the last one on, up and down exchanged", StepsEdgesTest::backward);
        told("u A d B (as with GROW) becomes A u B d (A and B as they are)", StepsEdgesTest::roll);
        told("LABEL of L, then l + r + 1, then LABEL of R with l added to each number", StepsEdgesTest::label);
        told("its greatest one is the node", StepsEdgesTest::shape);
        told("an empty row is an empty TREE", StepsEdgesTest::shapeOfEmpty);
        told("at the place k is the place where k stood (places from 1 on)", StepsEdgesTest::invert);
        told("ORDERS to ORDERS: from the last one on", StepsEdgesTest::turn);
        told("ahead of each, all that are on the STACK and less than it leave it, the one on top first",
            StepsEdgesTest::sortLetsTheLessOnesLeave);
        told("at the end all leave it, the one on top first", StepsEdgesTest::sortLetsAllLeave);
        told("A MAP is a row of 1 to 6 STEPS", StepsEdgesTest::oneToSixSteps);
        told("each from the FAMILY to which the one ahead of it goes", StepsEdgesTest::stepsThatFit);
        told("it is FROM that of its first one TO that of its last one", StepsEdgesTest::fromAndTo);
        told("MAPS: at most 8, numbered from 0.", StepsEdgesTest::eightMaps);
        told("Its IMAGE is by all STEPS, one after another.", StepsEdgesTest::allSteps);
        told("Of the SIZE, a MAP is ONE-TO-ONE, if no two OBJECTS have the same IMAGE", StepsEdgesTest::oneToOne);
        told("ONTO, if each OBJECT of TO is some IMAGE", StepsEdgesTest::onto);
        told("and PERFECT, if it is both", StepsEdgesTest::perfect);
        told("A MAP to the same FAMILY is a MOVE.", StepsEdgesTest::move);
        Sentences.end();
    }

    private static void told(String sentence, Runnable test) {
        Sentences.holds(Sentences.TERMS, sentence, test);
    }

    /** Due is the CODE of the IMAGE by the STEPS. */
    private static void becomes(int size, int code, int due, int... steps) {
        int from = FROM[steps[0]];
        int to = TO[steps[steps.length - 1]];
        Bijectory house = Houses.with(size, steps);
        int rank = house.rank(from, code);
        Check.due("the IMAGE of " + code + " by step " + steps[0], due,
            () -> house.unrank(to, house.image(0, rank)));
        house.walker(from, code);
        Check.due("the way of " + code + " by step " + steps[0], due, () -> house.send(0, 0, 1));
    }

    // ---- STEPS

    private static void sizeOne() {
        for (int step = 0; step <= 10; step++) {
            becomes(1, THE_ONE_OF_SIZE_1[FROM[step]], THE_ONE_OF_SIZE_1[TO[step]], step);
            int is = step;
            Check.due("ofMap(0, 5) of step " + step, 1, () -> Houses.with(1, is).ofMap(0, 5));
        }
    }

    private static void growOfEmpty() {
        // A empty at each node, B empty at each node
        becomes(3, 42, 321, 0, 6);
        becomes(3, 56, 123, 0, 6);
        becomes(1, 2, 1, 0, 6);
        becomes(6, 2730, 654321, 0, 6);
        becomes(6, 4032, 123456, 0, 6);
    }

    private static void growAtFirstReturn() {
        // ud uudd: nothing to the left, a node with a left one to the right; uudd ud: one to each side
        becomes(3, 44, 312, 0, 6);
        becomes(3, 50, 132, 0, 6);
        becomes(3, 52, 213, 0, 6);
        becomes(4, 0b11001010, 1432, 0, 6);
    }

    private static void graftAtLastLeave() {
        // B empty: all to the right; A empty: all to the left
        becomes(3, 56, 42, 1);
        becomes(3, 42, 56, 1);
        becomes(3, 44, 50, 1);
        becomes(3, 50, 52, 1);
        becomes(3, 52, 44, 1);
        becomes(6, 2730, 4032, 1);
        becomes(6, 4032, 2730, 1);
    }

    private static void read() {
        for (int code : new int[] {42, 44, 50, 52, 56}) {
            becomes(3, code, code, 2);
            becomes(3, code, code, 0, 2);
        }
    }

    private static void mirror() {
        // at the top node alone, 44 would become 56, and 56 44
        becomes(3, 44, 52, 3);
        becomes(3, 52, 44, 3);
        becomes(3, 56, 42, 3);
        becomes(3, 42, 56, 3);
        becomes(3, 50, 50, 3);
        becomes(2, 10, 12, 3);
        becomes(6, 4032, 2730, 3);
    }

    private static void backward() {
        becomes(3, 44, 50, 4);
        becomes(3, 50, 44, 4);
        becomes(3, 42, 42, 4);
        becomes(3, 56, 56, 4);
        becomes(4, 0b11010010, 0b10110100, 4);
    }

    private static void roll() {
        // A empty; B empty; both not
        becomes(3, 42, 52, 5);
        becomes(3, 44, 56, 5);
        becomes(3, 56, 50, 5);
        becomes(3, 52, 42, 5);
        becomes(3, 50, 44, 5);
        becomes(2, 10, 12, 5);
        becomes(2, 12, 10, 5);
    }

    private static void label() {
        // L empty, R empty, both not (l is added to the right one), and a right one of the left one
        becomes(3, 42, 321, 6);
        becomes(3, 56, 123, 6);
        becomes(3, 50, 132, 6);
        becomes(3, 52, 213, 6);
        becomes(5, 0b1101001100, 21534, 6);
        becomes(6, 2730, 654321, 6);
        becomes(6, 4032, 123456, 6);
    }

    private static void shape() {
        // the greatest one at first, at last, in the middle
        becomes(3, 321, 42, 7);
        becomes(3, 312, 44, 7);
        becomes(3, 123, 56, 7);
        becomes(3, 213, 52, 7);
        becomes(3, 132, 50, 7);
        becomes(3, 231, 50, 7);
    }

    private static void shapeOfEmpty() {
        becomes(2, 21, 10, 7);
        becomes(2, 12, 12, 7);
        becomes(6, 654321, 2730, 7);
        becomes(6, 123456, 4032, 7);
    }

    private static void invert() {
        becomes(3, 231, 312, 8);
        becomes(3, 312, 231, 8);
        becomes(3, 123, 123, 8);
        becomes(6, 654321, 654321, 8);
        becomes(6, 234561, 612345, 8);
        becomes(6, 612345, 234561, 8);
    }

    private static void turn() {
        becomes(2, 12, 21, 9);
        becomes(3, 231, 132, 9);
        becomes(6, 123456, 654321, 9);
        becomes(6, 612345, 543216, 9);
    }

    private static void sortLetsTheLessOnesLeave() {
        // none is less (nothing leaves), some are, all are
        becomes(3, 231, 213, 10);
        becomes(3, 213, 123, 10);
        becomes(4, 4231, 2134, 10);
        becomes(4, 4213, 1234, 10);
        becomes(4, 3214, 1234, 10);
        becomes(6, 234561, 234516, 10);
    }

    private static void sortLetsAllLeave() {
        becomes(2, 21, 12, 10);
        becomes(2, 12, 12, 10);
        becomes(6, 654321, 123456, 10);
        becomes(6, 123456, 123456, 10);
        becomes(6, 165432, 123456, 10);
    }

    // ---- MAPS

    private static void oneToSixSteps() {
        Bijectory house = Houses.with(3, 5);
        Check.due("ofMap(0, 2) of one", 1, () -> house.ofMap(0, 2));
        for (int length = 2; length <= 6; length++) {
            int is = length;
            Check.due("then(0, 5)", is, () -> house.then(0, 5));
            Check.due("ofMap(0, 2)", is, () -> house.ofMap(0, 2));
        }
        Check.badState("a seventh STEP", () -> house.then(0, 5));
        Check.due("ofMap(0, 2) behind it", 6, () -> house.ofMap(0, 2));
    }

    private static void stepsThatFit() {
        for (int first = 0; first <= 10; first++) {
            for (int second = 0; second <= 10; second++) {
                int step = second;
                boolean fits = TO[first] == FROM[second];
                Bijectory house = Houses.with(3, first);
                Check.due("then(0, " + second + ") behind map(" + first + ")",
                    fits ? 2 : "throws.IllegalStateException", () -> house.then(0, step));
                int to = fits ? TO[second] : TO[first];
                Check.due("ofMap(0, 1) behind that", to, () -> house.ofMap(0, 1));
            }
        }
    }

    private static void fromAndTo() {
        for (int step = 0; step <= 10; step++) {
            int is = step;
            Check.due("FROM of step " + step, FROM[step], () -> Houses.with(3, is).ofMap(0, 0));
            Check.due("TO of step " + step, TO[step], () -> Houses.with(3, is).ofMap(0, 1));
        }
        Bijectory there = Houses.with(3, 5, 0, 3, 6, 9, 10);
        Check.due("FROM of six", PATHS, () -> there.ofMap(0, 0));
        Check.due("TO of six", ORDERS, () -> there.ofMap(0, 1));
        Bijectory back = Houses.with(3, 8, 7, 2, 5, 0, 3);
        Check.due("FROM of six", ORDERS, () -> back.ofMap(0, 0));
        Check.due("TO of six", TREES, () -> back.ofMap(0, 1));
    }

    private static void eightMaps() {
        Bijectory house = new Bijectory();
        for (int number = 0; number < 8; number++) {
            int due = number;
            Check.outside("ofMap(" + number + ", 2) ahead of it", () -> house.ofMap(due, 2));
            Check.due("map(9) number " + number, due, () -> house.map(9));
        }
        Check.badState("a ninth MAP", () -> house.map(9));
        Check.due("how many", 8, () -> house.many(1));
        for (int number = 0; number < 8; number++) {
            int is = number;
            Check.due("ofMap(" + number + ", 2)", 1, () -> house.ofMap(is, 2));
        }
        for (int number : Refused.BEYOND_EIGHT) {
            Check.outside("ofMap(" + number + ", 2)", () -> house.ofMap(number, 2));
        }
    }

    private static void allSteps() {
        // ROLL goes 44, 56, 50, 44 and 42, 52, 42
        int[] of44 = {56, 50, 44, 56, 50, 44};
        int[] of42 = {52, 42, 52, 42, 52, 42};
        for (int length = 1; length <= 6; length++) {
            int[] steps = new int[length];
            Arrays.fill(steps, 5);
            becomes(3, 44, of44[length - 1], steps);
            becomes(3, 42, of42[length - 1], steps);
        }
        becomes(3, 42, 213, 5, 0, 3, 6, 9);
        becomes(3, 42, 123, 5, 0, 3, 6, 9, 10);
    }

    private static void facts(String told, int oneToOne, int onto, int images, Bijectory house) {
        Check.due(told + " ONE-TO-ONE", oneToOne, () -> house.ofMap(0, 3));
        Check.due(told + " ONTO", onto, () -> house.ofMap(0, 4));
        Check.due(told + " IMAGES", images, () -> house.ofMap(0, 5));
    }

    private static void oneToOne() {
        // of the SIZE 3, just 132 and 231 have the same SHAPE
        facts("SHAPE of 2", 1, 1, 2, Houses.with(2, 7));
        facts("SHAPE of 3", 0, 1, 5, Houses.with(3, 7));
        facts("SORT of 1", 1, 1, 1, Houses.with(1, 10));
        facts("SORT of 2", 0, 0, 1, Houses.with(2, 10));
        facts("MIRROR of 6", 1, 1, 132, Houses.with(6, 3));
        Bijectory house = Houses.with(2, 7);
        house.ofMap(0, 3);
        house.size(3);
        facts("SHAPE of 3 behind 2", 0, 1, 5, house);
        house.size(2);
        facts("SHAPE of 2 behind 3", 1, 1, 2, house);
    }

    private static void onto() {
        // of the SIZE 3, just 231 is no LABEL
        facts("LABEL of 2", 1, 1, 2, Houses.with(2, 6));
        facts("LABEL of 3", 1, 0, 5, Houses.with(3, 6));
        facts("LABEL and SHAPE of 6", 1, 1, 132, Houses.with(6, 6, 7));
        facts("SHAPE and LABEL of 6", 0, 0, 132, Houses.with(6, 7, 6));
        facts("SHAPE of 6", 0, 1, 132, Houses.with(6, 7));
        facts("TURN of 6", 1, 1, 720, Houses.with(6, 9));
    }

    private static void perfect() {
        Check.due("SHAPE and LABEL of 2", 2, () -> Houses.with(2, 7, 6).rounds(0));
        Check.due("SHAPE and LABEL of 3, neither", -1, () -> Houses.with(3, 7, 6).rounds(0));
        Check.due("LABEL and SHAPE of 6, both", 132, () -> Houses.with(6, 6, 7).rounds(0));
        Check.due("SORT of 1", 1, () -> Houses.with(1, 10).rounds(0));
        Check.due("SORT of 2", -1, () -> Houses.with(2, 10).rounds(0));
    }

    private static void move() {
        for (int step = 0; step <= 10; step++) {
            for (int size = 1; size <= 2; size++) {
                int is = step;
                int of = size;
                boolean moves = FROM[step] == TO[step];
                Check.due("step " + is + " of " + of + " is a MOVE", moves,
                    () -> Houses.with(of, is).ofMap(0, 6) != -1);
            }
        }
        Check.due("GROW and READ", 5, () -> Houses.with(3, 0, 2).ofMap(0, 6));
        Check.due("GROW, MIRROR and READ", 1, () -> Houses.with(3, 0, 3, 2).ofMap(0, 6));
        Check.due("GROW and LABEL of 1", -1, () -> Houses.with(1, 0, 6).ofMap(0, 6));
    }
}
