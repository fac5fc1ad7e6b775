/** The edges of promises 1 to 8, line by line: what is told, and what is done. */
public final class ToldEdgesTest {
    private static final int[] NO_STEPS = {-1, 11, Integer.MIN_VALUE, Integer.MAX_VALUE};
    private static final int[] NO_STATISTICS = {-1, 4, Integer.MIN_VALUE, Integer.MAX_VALUE};
    private static final int[] NO_FAMILIES = {-1, 3, Integer.MIN_VALUE, Integer.MAX_VALUE};
    /** Of the MAPS of Refused.busy(). */
    private static final int[] NO_MAPS = {-1, 5, 8, Integer.MIN_VALUE, Integer.MAX_VALUE};
    /** Of its WALKERS and CLAIMS. */
    private static final int[] NO_NUMBERS = {-1, 3, 4, 8, Integer.MIN_VALUE, Integer.MAX_VALUE};

    public static void main(String[] args) {
        newHouse();
        size();
        map();
        then();
        walker();
        claim();
        send();
        trial();
        Sentences.end(1, 2, 3, 4, 5, 6, 7, 8);
    }

    private static void manyAre(Bijectory house, int... due) {
        for (int what = 0; what < due.length; what++) {
            int of = what;
            Check.due("many(" + what + ")", due[what], () -> house.many(of));
        }
    }

    // ---- 1

    private static void newHouse() {
        Sentences.holds(1, "Creates a house without MAPS.", ToldEdgesTest::empty);
    }

    private static void empty() {
        Bijectory house = new Bijectory();
        manyAre(house, 3, 0, 0, 0, 0, 0, 0);
        Check.outside("ofMap(0, 0)", () -> house.ofMap(0, 0));
        Check.outside("image(0, 0)", () -> house.image(0, 0));
        Check.outside("then(0, 0)", () -> house.then(0, 0));
        Check.outside("claim(0, 0, 0)", () -> house.claim(0, 0, 0));
        Check.outside("ofWalker(0, 0)", () -> house.ofWalker(0, 0));
        Check.outside("ofClaim(0, 0)", () -> house.ofClaim(0, 0));
        Check.outside("trial(0)", () -> house.trial(0));
        Check.due("size(3)", 0, () -> house.size(3));
        Check.due("map(0)", 0, () -> house.map(0));
        Bijectory other = new Bijectory();
        manyAre(other, 3, 0, 0, 0, 0, 0, 0);
    }

    // ---- 2

    private static void size() {
        Sentences.holds(2, "WALKERS are gone, also by the same one", ToldEdgesTest::sizeTakesWalkers);
        Sentences.holds(2, "Returns how many WALKERS there were.", ToldEdgesTest::sizeCountsWalkers);
        Sentences.holds(2, "Throws `IllegalArgumentException` if size is not 1 to 6", ToldEdgesTest::noSize);
    }

    private static void sizeTakesWalkers() {
        for (int size = 1; size <= 6; size++) {
            Bijectory house = Refused.of(Refused::busy);
            int to = size;
            Check.due("size(" + size + ")", 3, () -> house.size(to));
            // MAPS, CLAIMS, and what was counted, stay
            manyAre(house, to, 5, 0, 3, 1, 7, 4);
            Check.outside("ofWalker(0, 0)", () -> house.ofWalker(0, 0));
        }
    }

    private static void sizeCountsWalkers() {
        for (int walkers = 0; walkers <= 4; walkers++) {
            Bijectory house = Houses.of(2);
            for (int number = 0; number < walkers; number++) {
                house.walker(2, 21);
            }
            Check.due("size(2) with " + walkers, walkers, () -> house.size(2));
            Check.due("size(2) with none", 0, () -> house.size(2));
        }
    }

    private static void noSize() {
        for (int size : new int[] {0, 7, -1, 8, 64, Integer.MIN_VALUE, Integer.MAX_VALUE}) {
            Refused.argument("size(" + size + ")", Refused::busy, house -> house.size(size));
            Refused.argument("size(" + size + ") of a new one", Refused::fresh, house -> house.size(size));
        }
        for (int size = 1; size <= 6; size++) {
            int is = size;
            Refused.taken("size(" + size + ")", 3, Refused::busy, house -> house.size(is));
        }
    }

    // ---- 3

    private static void map() {
        Sentences.holds(3, "Returns its number.", ToldEdgesTest::mapNumbers);
        Sentences.holds(3, "Throws `IllegalArgumentException` if step is not 0 to 10", ToldEdgesTest::mapOfNoStep);
        Sentences.holds(3, "Throws `IllegalStateException` if there are 8", ToldEdgesTest::ninthMap);
    }

    private static void mapNumbers() {
        Bijectory house = new Bijectory();
        for (int number = 0; number < 8; number++) {
            int of = number;
            Check.due("map(" + (10 - number) + ")", of, () -> house.map(10 - of));
        }
        Refused.taken("map(0)", 5, Refused::busy, other -> other.map(0));
    }

    private static void mapOfNoStep() {
        for (int step : NO_STEPS) {
            Refused.argument("map(" + step + ")", Refused::busy, house -> house.map(step));
            Refused.argument("map(" + step + ") of a new one", Refused::fresh, house -> house.map(step));
        }
        for (int step = 0; step <= 10; step++) {
            int is = step;
            Refused.taken("map(" + step + ")", 0, Refused::fresh, house -> house.map(is));
        }
    }

    private static void ninthMap() {
        for (int step = 0; step <= 10; step++) {
            int is = step;
            Refused.state("map(" + step + ")", Refused::busyWithEightMaps, house -> house.map(is));
        }
    }

    // ---- 4

    private static void then() {
        Sentences.holds(4, "Returns how many STEPS it has then.", ToldEdgesTest::thenCounts);
        Sentences.holds(4, "Puts a STEP behind those of a MAP.", ToldEdgesTest::thenChangesTheMap);
        Sentences.holds(4, "Throws `IndexOutOfBoundsException` if there is no such MAP", ToldEdgesTest::thenOfNoMap);
        Sentences.holds(4, "Throws `IllegalArgumentException` if step is not 0 to 10", ToldEdgesTest::thenOfNoStep);
        String state = "Throws `IllegalStateException` if it has 6, is in a CLAIM, or the STEP does not go from the "
            + "FAMILY TO which it is";
        Sentences.holds(4, state, ToldEdgesTest::thenBehindSix);
        Sentences.holds(4, state, ToldEdgesTest::thenInAClaim);
        Sentences.holds(4, state, ToldEdgesTest::thenFromElsewhere);
    }

    private static void thenCounts() {
        Bijectory house = Houses.with(3, 10);
        for (int length = 2; length <= 6; length++) {
            int due = length;
            Check.due("then(0, 9)", due, () -> house.then(0, 9));
        }
    }

    private static void thenChangesTheMap() {
        // ROLL of 3 has rounds of two and of three; what was asked of a shorter MAP does not stay
        long[] periods = {6, 3, 2, 3, 6, 1};
        int[] rounds = {2, 3, 4, 3, 2, 5};
        int[] unmoved = {0, 2, 3, 2, 0, 5};
        Bijectory house = Houses.with(3, 5);
        for (int length = 1; length <= 6; length++) {
            Check.due("period(0) of " + length, periods[length - 1], () -> house.period(0));
            Check.due("rounds(0) of " + length, rounds[length - 1], () -> house.rounds(0));
            Check.due("ofMap(0, 6) of " + length, unmoved[length - 1], () -> house.ofMap(0, 6));
            if (length < 6) {
                house.then(0, 5);
            }
        }
    }

    private static void thenOfNoMap() {
        for (int map : NO_MAPS) {
            Refused.outside("then(" + map + ", 3)", Refused::busy, house -> house.then(map, 3));
        }
        for (int map : Refused.BEYOND_EIGHT) {
            Refused.outside("then(" + map + ", 3)", Refused::busyWithEightMaps, house -> house.then(map, 3));
        }
        Refused.outside("then(0, 0)", Refused::fresh, house -> house.then(0, 0));
        Refused.taken("then(0, 4), the first MAP", 2, Refused::busy, house -> house.then(0, 4));
        Refused.taken("then(7, 9), the last MAP", 2, Refused::busyWithEightMaps, house -> house.then(7, 9));
    }

    private static void thenOfNoStep() {
        for (int step : NO_STEPS) {
            Refused.argument("then(0, " + step + ")", Refused::busy, house -> house.then(0, step));
        }
        Refused.taken("then(0, 0)", 2, Refused::busy, house -> house.then(0, 0));
        Refused.taken("then(3, 10)", 2, Refused::busy, house -> house.then(3, 10));
    }

    private static void thenBehindSix() {
        Refused.state("then(2, 3)", Refused::busyWithSixSteps, house -> house.then(2, 3));
        Refused.state("then(2, 2)", Refused::busyWithSixSteps, house -> house.then(2, 2));
        Refused.taken("ofMap(2, 2)", 6, Refused::busyWithSixSteps, house -> house.ofMap(2, 2));
        Refused.taken("then(3, 9), another one", 2, Refused::busyWithSixSteps, house -> house.then(3, 9));
        Refused.taken("a sixth one", 6, house -> {
            house.map(5);
            house.then(0, 5);
            house.then(0, 5);
            house.then(0, 5);
            house.then(0, 5);
        }, house -> house.then(0, 5));
    }

    private static void thenInAClaim() {
        Refused.state("then(4, 8)", Refused::busy, house -> house.then(4, 8));
        Refused.state("then(1, 9)", Refused::busy, house -> house.then(1, 9));
        Refused.state("then(1, 9) for another SIZE", house -> {
            Refused.busy(house);
            house.size(1);
        }, house -> house.then(1, 9));
        Refused.taken("then(3, 9), beside a CLAIM", 2, Refused::busy, house -> house.then(3, 9));
        Refused.taken("then(0, 4), whose CLAIM was refused", 2, house -> {
            Refused.busy(house);
            Check.badArgument("claim(0, 0, 4)", () -> house.claim(0, 0, 4));
        }, house -> house.then(0, 4));
        Refused.taken("then(0, 4), whose CLAIM was one too many", 2, house -> {
            house.map(5);
            house.map(5);
            for (int number = 0; number < 8; number++) {
                house.claim(1, 0, 0);
            }
            Check.badState("claim(0, 0, 0)", () -> house.claim(0, 0, 0));
        }, house -> house.then(0, 4));
    }

    private static void thenFromElsewhere() {
        for (int step : new int[] {2, 3, 6, 7, 8, 9, 10}) {
            Refused.state("then(0, " + step + ") TO PATHS", Refused::busy, house -> house.then(0, step));
        }
        for (int step : new int[] {0, 1, 4, 5, 7, 8, 9, 10}) {
            Refused.state("then(2, " + step + ") TO TREES", Refused::busy, house -> house.then(2, step));
        }
        for (int step = 0; step <= 6; step++) {
            int is = step;
            Refused.state("then(3, " + step + ") TO ORDERS", Refused::busy, house -> house.then(3, is));
        }
        for (int step : new int[] {2, 3, 6}) {
            Refused.taken("then(2, " + step + ")", 3, Refused::busy, house -> house.then(2, step));
        }
    }

    // ---- 5

    private static void walker() {
        Sentences.holds(5, "Returns its number.", ToldEdgesTest::walkerNumbers);
        Sentences.holds(5, "Throws `IndexOutOfBoundsException` if family is not 0 to 2",
            ToldEdgesTest::walkerOfNoFamily);
        Sentences.holds(5, "Throws `IllegalArgumentException` if code is none of that FAMILY and the SIZE",
            ToldEdgesTest::walkerOfNoCode);
        Sentences.holds(5, "Throws `IllegalStateException` if there are 4", ToldEdgesTest::fifthWalker);
    }

    private static void walkerNumbers() {
        Bijectory house = new Bijectory();
        int[] codes = {56, 42, 321};
        for (int number = 0; number < 4; number++) {
            int of = number % 3;
            Check.due("walker(" + of + ", " + codes[of] + ")", number, () -> house.walker(of, codes[of]));
        }
        house.size(3);
        Check.due("walker(2, 123) behind size(3)", 0, () -> house.walker(2, 123));
    }

    private static void walkerOfNoFamily() {
        for (int family : NO_FAMILIES) {
            for (int code : new int[] {44, 123}) {
                Refused.outside("walker(" + family + ", " + code + ")", Refused::busy,
                    house -> house.walker(family, code));
            }
        }
        Refused.taken("walker(0, 44)", 3, Refused::busy, house -> house.walker(0, 44));
        Refused.taken("walker(2, 123)", 3, Refused::busy, house -> house.walker(2, 123));
    }

    private static void walkerOfNoCode() {
        // of another FAMILY, beside the first and the last one, of another SIZE, far away
        for (int code : new int[] {123, 41, 57, 12, 170, 0, -1, Integer.MIN_VALUE, Integer.MAX_VALUE}) {
            Refused.argument("walker(0, " + code + ")", Refused::busy, house -> house.walker(0, code));
            Refused.argument("walker(1, " + code + ")", Refused::busy, house -> house.walker(1, code));
        }
        for (int code : new int[] {42, 122, 322, 12, 1234, 0, -123, Integer.MIN_VALUE, Integer.MAX_VALUE}) {
            Refused.argument("walker(2, " + code + ")", Refused::busy, house -> house.walker(2, code));
        }
        for (int code : new int[] {42, 56}) {
            Refused.taken("walker(0, " + code + ")", 3, Refused::busy, house -> house.walker(0, code));
            Refused.taken("walker(1, " + code + ")", 3, Refused::busy, house -> house.walker(1, code));
        }
        for (int code : new int[] {123, 321}) {
            Refused.taken("walker(2, " + code + ")", 3, Refused::busy, house -> house.walker(2, code));
        }
    }

    private static void fifthWalker() {
        Refused.state("walker(0, 56)", Refused::busyWithFourWalkers, house -> house.walker(0, 56));
        Refused.state("walker(1, 42)", Refused::busyWithFourWalkers, house -> house.walker(1, 42));
        Refused.state("walker(2, 231)", Refused::busyWithFourWalkers, house -> house.walker(2, 231));
        Refused.taken("walker(2, 231) for the SIZE told anew", 0, house -> {
            Refused.busyWithFourWalkers(house);
            house.size(3);
        }, house -> house.walker(2, 231));
    }

    // ---- 6

    private static void claim() {
        Sentences.holds(6, "Makes a CLAIM, and tries it.", ToldEdgesTest::claimTries);
        Sentences.holds(6, "Returns its number.", ToldEdgesTest::claimNumbers);
        Sentences.holds(6, "Throws `IndexOutOfBoundsException` if there is no such MAP", ToldEdgesTest::claimOfNoMap);
        Sentences.holds(6, "Throws `IllegalArgumentException` if which or other is not 0 to 3",
            ToldEdgesTest::claimOfNoStatistic);
        Sentences.holds(6, "Throws `IllegalStateException` if there are 8", ToldEdgesTest::ninthClaim);
    }

    private static void claimTries() {
        Bijectory house = Houses.with(1, 9);
        house.claim(0, 0, 0);
        Check.due("TRIED", 2, () -> house.ofClaim(0, 3));
        Check.due("REFUTED", 0, () -> house.ofClaim(0, 4));
        manyAre(house, 1, 1, 0, 1, 0, 0, 1);
        house.size(6);
        house.claim(0, 0, 0);
        Check.due("TRIED", 64, () -> house.ofClaim(1, 3));
        Check.due("REFUTED", 64, () -> house.ofClaim(1, 4));
        Check.due("TRIED, of the other CLAIM", 2, () -> house.ofClaim(0, 3));
        manyAre(house, 6, 1, 0, 2, 1, 0, 2);
    }

    private static void claimNumbers() {
        Bijectory house = Houses.with(3, 9);
        for (int number = 0; number < 8; number++) {
            int due = number;
            Check.due("claim(0, 0, 0)", due, () -> house.claim(0, 0, 0));
        }
    }

    private static void claimOfNoMap() {
        for (int map : NO_MAPS) {
            Refused.outside("claim(" + map + ", 0, 0)", Refused::busy, house -> house.claim(map, 0, 0));
        }
        for (int map : Refused.BEYOND_EIGHT) {
            Refused.outside("claim(" + map + ", 0, 0)", Refused::busyWithEightMaps, house -> house.claim(map, 0, 0));
        }
        Refused.outside("claim(0, 0, 0)", Refused::fresh, house -> house.claim(0, 0, 0));
        Refused.taken("claim(0, 0, 0)", 3, Refused::busy, house -> house.claim(0, 0, 0));
        Refused.taken("claim(7, 0, 0)", 3, Refused::busyWithEightMaps, house -> house.claim(7, 0, 0));
    }

    private static void claimOfNoStatistic() {
        for (int which : NO_STATISTICS) {
            Refused.argument("claim(0, " + which + ", 0)", Refused::busy, house -> house.claim(0, which, 0));
            Refused.argument("claim(0, 0, " + which + ")", Refused::busy, house -> house.claim(0, 0, which));
            Refused.argument("claim(0, both)", Refused::busy, house -> house.claim(0, which, which));
        }
        Refused.taken("claim(0, 0, 3)", 3, Refused::busy, house -> house.claim(0, 0, 3));
        Refused.taken("claim(0, 3, 0)", 3, Refused::busy, house -> house.claim(0, 3, 0));
    }

    private static void ninthClaim() {
        Refused.state("claim(0, 0, 0)", Refused::busyWithEightClaims, house -> house.claim(0, 0, 0));
        Refused.state("claim(4, 3, 3)", Refused::busyWithEightClaims, house -> house.claim(4, 3, 3));
        Refused.state("claim(0, 0, 0) for another SIZE", house -> {
            Refused.busyWithEightClaims(house);
            house.size(6);
        }, house -> house.claim(0, 0, 0));
        Refused.taken("an eighth one", 7, house -> {
            house.map(9);
            for (int number = 0; number < 7; number++) {
                house.claim(0, 0, 0);
            }
        }, house -> house.claim(0, 0, 0));
    }

    // ---- 7

    private static void send() {
        Sentences.holds(7, "Returns the CODE where it is then.", ToldEdgesTest::sendReturns);
        Sentences.holds(7, "Throws `IndexOutOfBoundsException` if there is no such WALKER, or MAP",
            ToldEdgesTest::sendOfNoWalker);
        Sentences.holds(7, "Throws `IndexOutOfBoundsException` if there is no such WALKER, or MAP",
            ToldEdgesTest::sendByNoMap);
        Sentences.holds(7, "Throws `IllegalArgumentException` if often is not 1 to 60", ToldEdgesTest::sendNotSoOften);
        String state = "Throws `IllegalStateException` if the MAP is not FROM its FAMILY, or if it is no MOVE and "
            + "often is above 1";
        Sentences.holds(7, state, ToldEdgesTest::sendFromElsewhere);
        Sentences.holds(7, state, ToldEdgesTest::sendByNoMove);
    }

    private static void sendReturns() {
        // ROLL goes 44, 56, 50; the walker of busy() is at 56, and the one among ORDERS at 312
        Refused.taken("send(0, 0, 1)", 50, Refused::busy, house -> house.send(0, 0, 1));
        Refused.taken("send(0, 0, 60)", 56, Refused::busy, house -> house.send(0, 0, 60));
        Refused.taken("send(0, 2, 1)", 42, Refused::busy, house -> house.send(0, 2, 1));
        Refused.taken("send(2, 3, 60)", 123, Refused::busy, house -> house.send(2, 3, 60));
        Refused.taken("send(2, 4, 59)", 231, Refused::busy, house -> house.send(2, 4, 59));
    }

    private static void sendOfNoWalker() {
        for (int walker : NO_NUMBERS) {
            Refused.outside("send(" + walker + ", 0, 1)", Refused::busy, house -> house.send(walker, 0, 1));
        }
        for (int walker : new int[] {-1, 4, Integer.MAX_VALUE}) {
            Refused.outside("send(" + walker + ", 0, 1)", Refused::busyWithFourWalkers,
                house -> house.send(walker, 0, 1));
        }
        Refused.taken("send(3, 0, 1)", 50, Refused::busyWithFourWalkers, house -> house.send(3, 0, 1));
        Refused.outside("send(0, 0, 1), gone", house -> {
            Refused.busy(house);
            house.size(3);
        }, house -> house.send(0, 0, 1));
    }

    private static void sendByNoMap() {
        for (int map : NO_MAPS) {
            Refused.outside("send(0, " + map + ", 1)", Refused::busy, house -> house.send(0, map, 1));
        }
        for (int map : Refused.BEYOND_EIGHT) {
            Refused.outside("send(0, " + map + ", 1)", Refused::busyWithEightMaps, house -> house.send(0, map, 1));
        }
        Refused.outside("send(0, 0, 1)", house -> house.walker(0, 42), house -> house.send(0, 0, 1));
        Refused.taken("send(2, 7, 1)", 213, Refused::busyWithEightMaps, house -> house.send(2, 7, 1));
    }

    private static void sendNotSoOften() {
        for (int often : new int[] {0, 61, -1, 1 << 16, Integer.MIN_VALUE, Integer.MAX_VALUE}) {
            Refused.argument("send(0, 0, " + often + ")", Refused::busy, house -> house.send(0, 0, often));
        }
        Refused.taken("send(0, 0, 59)", 44, Refused::busy, house -> house.send(0, 0, 59));
        Refused.taken("send(0, 0, 2)", 44, Refused::busy, house -> house.send(0, 0, 2));
    }

    private static void sendFromElsewhere() {
        Refused.state("send(0, 1, 1), FROM TREES", Refused::busy, house -> house.send(0, 1, 1));
        Refused.state("send(0, 3, 1), FROM ORDERS", Refused::busy, house -> house.send(0, 3, 1));
        Refused.state("send(2, 0, 1), FROM PATHS", Refused::busy, house -> house.send(2, 0, 1));
        Refused.state("send(2, 0, 60), FROM PATHS", Refused::busy, house -> house.send(2, 0, 60));
        // it began among TREES, and is among ORDERS
        Refused.state("send(1, 1, 1), FROM its HOME's FAMILY", Refused::busy, house -> house.send(1, 1, 1));
        Refused.taken("send(1, 3, 1), FROM where it is", 123, Refused::busy, house -> house.send(1, 3, 1));
        // FROM ORDERS TO TREES
        Refused.state("send(0, 5, 1), TO another one", Refused::busyWithEightMaps, house -> house.send(0, 5, 1));
        Refused.taken("send(2, 5, 1)", 44, Refused::busyWithEightMaps, house -> house.send(2, 5, 1));
    }

    private static void sendByNoMove() {
        for (int often : new int[] {2, 3, 60}) {
            Refused.state("send(0, 2, " + often + ")", Refused::busy, house -> house.send(0, 2, often));
        }
        Refused.taken("send(0, 2, 1)", 42, Refused::busy, house -> house.send(0, 2, 1));
        Refused.taken("send(0, 5, 2), there and back", 44, house -> {
            Refused.busy(house);
            house.map(0);
            house.then(5, 2);
            house.then(5, 5);
        }, house -> house.send(0, 5, 2));
    }

    // ---- 8

    private static void trial() {
        Sentences.holds(8, "Tries a CLAIM for the SIZE.", ToldEdgesTest::trialTries);
        Sentences.holds(8, "Returns whether the MAP KEEPS the two now.", ToldEdgesTest::trialReturns);
        Sentences.holds(8, "Throws `IndexOutOfBoundsException` if there is no such CLAIM", ToldEdgesTest::noTrial);
    }

    private static void trialTries() {
        Bijectory house = Houses.with(2, 8);
        house.claim(0, 2, 2);
        house.size(3);
        house.trial(0);
        Check.due("TRIED", 12, () -> house.ofClaim(0, 3));
        Check.due("REFUTED", 8, () -> house.ofClaim(0, 4));
        manyAre(house, 3, 1, 0, 1, 1, 0, 2);
        house.trial(0);
        manyAre(house, 3, 1, 0, 1, 1, 0, 3);
    }

    private static void trialReturns() {
        // INVERT keeps RECORDS for 1 and 2, and not from 3 on, whatever was found ahead of it
        Bijectory house = Houses.with(3, 8);
        house.claim(0, 2, 2);
        for (int size : new int[] {3, 1, 6, 2, 3, 2}) {
            house.size(size);
            Check.due("trial(0) of " + size, size < 3, () -> house.trial(0));
        }
    }

    private static void noTrial() {
        for (int claim : NO_NUMBERS) {
            Refused.outside("trial(" + claim + ")", Refused::busy, house -> house.trial(claim));
        }
        for (int claim : Refused.BEYOND_EIGHT) {
            Refused.outside("trial(" + claim + ")", Refused::busyWithEightClaims, house -> house.trial(claim));
        }
        Refused.outside("trial(0)", Refused::fresh, house -> house.trial(0));
        Refused.taken("trial(0)", false, Refused::busy, house -> house.trial(0));
        Refused.taken("trial(2)", true, Refused::busy, house -> house.trial(2));
        Refused.taken("trial(7)", false, Refused::busyWithEightClaims, house -> house.trial(7));
    }
}
