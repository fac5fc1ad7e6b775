import java.math.BigInteger;

/** The edges of promises 25 to 29, line by line: what one asks of walkers, claims and the whole house. */
public final class StateEdgesTest {
    private static final int[] NO_FAMILIES = {-1, 3, Integer.MIN_VALUE, Integer.MAX_VALUE};
    private static final int[] NO_STATISTICS = {-1, 4, Integer.MIN_VALUE, Integer.MAX_VALUE};
    private static final int[] NO_WHATS = {-1, 5, Integer.MIN_VALUE, Integer.MAX_VALUE};
    /** Of the WALKERS and CLAIMS of Refused.busy(). */
    private static final int[] NO_NUMBERS = {-1, 3, 4, 8, Integer.MIN_VALUE, Integer.MAX_VALUE};

    public static void main(String[] args) {
        ofWalker();
        ofClaim();
        many();
        mean();
        digest();
        Sentences.end(25, 26, 27, 28, 29);
    }

    // ---- 25

    private static void ofWalker() {
        Sentences.holds(25, "Returns that.", StateEdgesTest::factsOfWalkers);
        Sentences.holds(25, "2 the CODE of HOME (in the FAMILY of that)", StateEdgesTest::homeInItsFamily);
        Sentences.holds(25, "Throws `IndexOutOfBoundsException` if there is no such WALKER", StateEdgesTest::noWalker);
        Sentences.holds(25, "Throws `IllegalArgumentException` if what is not 0 to 4", StateEdgesTest::ofWalkerNoWhat);
    }

    private static void walkerIs(Bijectory house, int walker, int... due) {
        for (int what = 0; what < due.length; what++) {
            int of = what;
            Check.due("ofWalker(" + walker + ", " + of + ")", due[of], () -> house.ofWalker(walker, of));
        }
    }

    private static void factsOfWalkers() {
        Bijectory house = Refused.of(Refused::busyWithFourWalkers);
        walkerIs(house, 0, 0, 56, 44, 4, 1);
        walkerIs(house, 1, 2, 213, 52, 1, 0);
        walkerIs(house, 2, 2, 312, 312, 2, 1);
        walkerIs(house, 3, 0, 56, 56, 0, 0);
    }

    private static void homeInItsFamily() {
        // HOME is told by its CODE, though the WALKER is where other CODES are
        Bijectory house = Houses.with(6, 1, 6, 8);
        house.walker(0, 4032);
        house.send(0, 0, 1);
        walkerIs(house, 0, 2, 654321, 4032, 1, 0);
    }

    private static void noWalker() {
        for (int walker : NO_NUMBERS) {
            Refused.outside("ofWalker(" + walker + ", 0)", Refused::busy, house -> house.ofWalker(walker, 0));
        }
        for (int walker : new int[] {-1, 4}) {
            Refused.outside("ofWalker(" + walker + ", 4)", Refused::busyWithFourWalkers,
                house -> house.ofWalker(walker, 4));
        }
        Refused.outside("ofWalker(0, 0) of a new one", Refused::fresh, house -> house.ofWalker(0, 0));
        Refused.outside("ofWalker(0, 0), gone", house -> {
            Refused.busy(house);
            house.size(3);
        }, house -> house.ofWalker(0, 0));
    }

    private static void ofWalkerNoWhat() {
        for (int what : NO_WHATS) {
            Refused.argument("ofWalker(0, " + what + ")", Refused::busy, house -> house.ofWalker(0, what));
            Refused.argument("ofWalker(2, " + what + ")", Refused::busy, house -> house.ofWalker(2, what));
        }
    }

    // ---- 26

    private static void ofClaim() {
        Sentences.holds(26, "Returns that.", StateEdgesTest::factsOfClaims);
        Sentences.holds(26, "the set of SIZES for which it was TRIED (the sum of 2^n), 4 that of those for which it "
            + "was REFUTED", StateEdgesTest::sumsOfSizes);
        Sentences.holds(26, "Throws `IndexOutOfBoundsException` if there is no such CLAIM", StateEdgesTest::noClaim);
        Sentences.holds(26, "Throws `IllegalArgumentException` if what is not 0 to 4", StateEdgesTest::ofClaimNoWhat);
    }

    private static void claimIs(Bijectory house, int claim, int... due) {
        for (int what = 0; what < due.length; what++) {
            int of = what;
            Check.due("ofClaim(" + claim + ", " + of + ")", due[of], () -> house.ofClaim(claim, of));
        }
    }

    private static void factsOfClaims() {
        Bijectory house = Refused.of(Refused::busyWithEightClaims);
        claimIs(house, 0, 4, 2, 2, 12, 8);
        claimIs(house, 1, 1, 3, 0, 4, 0);
        claimIs(house, 2, 4, 0, 0, 8, 0);
        claimIs(house, 7, 0, 3, 3, 8, 8);
    }

    private static void sumsOfSizes() {
        for (int size = 1; size <= 6; size++) {
            // FIXED and RECORDS of INVERT: kept for 1 alone
            Bijectory house = Houses.with(size, 8);
            house.claim(0, 2, 3);
            claimIs(house, 0, 0, 2, 3, 1 << size, size == 1 ? 0 : 1 << size);
        }
        Bijectory house = Houses.with(1, 8);
        house.claim(0, 2, 3);
        house.size(6);
        house.trial(0);
        claimIs(house, 0, 0, 2, 3, 66, 64);
        for (int size = 2; size <= 5; size++) {
            house.size(size);
            house.trial(0);
        }
        claimIs(house, 0, 0, 2, 3, 126, 124);
    }

    private static void noClaim() {
        for (int claim : NO_NUMBERS) {
            Refused.outside("ofClaim(" + claim + ", 0)", Refused::busy, house -> house.ofClaim(claim, 0));
        }
        for (int claim : Refused.BEYOND_EIGHT) {
            Refused.outside("ofClaim(" + claim + ", 4)", Refused::busyWithEightClaims,
                house -> house.ofClaim(claim, 4));
        }
        Refused.outside("ofClaim(0, 0) of a new one", Refused::fresh, house -> house.ofClaim(0, 0));
    }

    private static void ofClaimNoWhat() {
        for (int what : NO_WHATS) {
            Refused.argument("ofClaim(0, " + what + ")", Refused::busy, house -> house.ofClaim(0, what));
            Refused.argument("ofClaim(2, " + what + ")", Refused::busy, house -> house.ofClaim(2, what));
        }
    }

    // ---- 27

    private static void many() {
        Sentences.holds(27, "Returns that.", StateEdgesTest::manyOfAFullHouse);
        Sentences.holds(27, "4 CLAIMS that were REFUTED for some SIZE", StateEdgesTest::manyRefuted);
        Sentences.holds(27, "5 TRIPS ever (of those that are gone, too)", StateEdgesTest::tripsEver);
        Sentences.holds(27, "6 trials ever (each call of trial() and claim())", StateEdgesTest::trialsEver);
        Sentences.holds(27, "Throws `IllegalArgumentException` if what is not 0 to 6", StateEdgesTest::manyOfNoWhat);
    }

    private static void manyAre(Bijectory house, int... due) {
        for (int what = 0; what < due.length; what++) {
            int of = what;
            Check.due("many(" + what + ")", due[what], () -> house.many(of));
        }
    }

    private static void full(Bijectory house) {
        for (int number = 0; number < 8; number++) {
            house.map(number % 2 == 0 ? 9 : 8);
        }
        for (int number = 0; number < 8; number++) {
            house.claim(number, 0, 0);
        }
        for (int number = 0; number < 4; number++) {
            house.walker(2, house.unrank(2, 0));
        }
    }

    private static void manyOfAFullHouse() {
        manyAre(new Bijectory(), 3, 0, 0, 0, 0, 0, 0);
        Bijectory house = Houses.of(6);
        full(house);
        manyAre(house, 6, 8, 4, 8, 8, 0, 8);
        Bijectory one = Houses.of(1);
        full(one);
        manyAre(one, 1, 8, 4, 8, 0, 0, 8);
    }

    private static void manyRefuted() {
        // TURN keeps DROPS for 1 alone; REFUTED once is REFUTED, and one CLAIM counts once
        Bijectory house = Houses.with(1, 9);
        house.claim(0, 0, 0);
        house.claim(0, 0, 0);
        Check.due("many(4), none", 0, () -> house.many(4));
        house.size(6);
        Check.due("many(4), none, not tried", 0, () -> house.many(4));
        house.trial(1);
        Check.due("many(4), one", 1, () -> house.many(4));
        house.size(5);
        house.trial(1);
        Check.due("many(4), one for two SIZES", 1, () -> house.many(4));
        house.size(1);
        house.trial(1);
        Check.due("many(4), one, kept for 1", 1, () -> house.many(4));
        house.size(2);
        house.trial(0);
        Check.due("many(4), both", 2, () -> house.many(4));
    }

    private static void tripsEver() {
        Bijectory house = Houses.with(3, 3);
        Check.due("many(5), none yet", 0, () -> house.many(5));
        house.walker(1, 50);
        house.walker(1, 44);
        house.send(0, 0, 60);
        house.send(1, 0, 1);
        Check.due("many(5) of two", 61, () -> house.many(5));
        house.size(3);
        Check.due("many(5) of those that are gone", 61, () -> house.many(5));
        house.walker(1, 42);
        house.send(0, 0, 2);
        Check.due("many(5) of those, and of a new one", 63, () -> house.many(5));
        Check.due("ofWalker(0, 3) of the new one", 2, () -> house.ofWalker(0, 3));
        Check.badArgument("send(0, 0, 61)", () -> house.send(0, 0, 61));
        Check.outside("send(1, 0, 1)", () -> house.send(1, 0, 1));
        Check.due("many(5) behind refused ones", 63, () -> house.many(5));
    }

    private static void trialsEver() {
        Bijectory house = Houses.with(3, 9);
        house.claim(0, 0, 0);
        Check.due("many(6) of claim()", 1, () -> house.many(6));
        house.trial(0);
        house.trial(0);
        Check.due("many(6) of trial(), for the same SIZE", 3, () -> house.many(6));
        house.against(0, 0, 0);
        house.cancels(0, 0);
        house.digest();
        Check.due("many(6) of what asks alone", 3, () -> house.many(6));
        Check.outside("trial(1)", () -> house.trial(1));
        Check.badArgument("claim(0, 0, 4)", () -> house.claim(0, 0, 4));
        for (int number = 1; number < 8; number++) {
            house.claim(0, 1, 1);
        }
        Check.badState("claim(0, 1, 1)", () -> house.claim(0, 1, 1));
        Check.due("many(6) of what was not refused", 10, () -> house.many(6));
        house.size(6);
        Check.due("many(6) for another SIZE", 10, () -> house.many(6));
    }

    private static void manyOfNoWhat() {
        for (int what : new int[] {-1, 7, Integer.MIN_VALUE, Integer.MAX_VALUE}) {
            Refused.argument("many(" + what + ")", Refused::busy, house -> house.many(what));
            Refused.argument("many(" + what + ") of a new one", Refused::fresh, house -> house.many(what));
        }
    }

    // ---- 28

    private static void mean() {
        Sentences.holds(28, "Returns its mean over all OBJECTS of the SIZE, not rounded (the sum, divided once).",
            StateEdgesTest::dividedOnce);
        Sentences.holds(28, "Throws `IndexOutOfBoundsException` if family is not 0 to 2", StateEdgesTest::meanNoFamily);
        Sentences.holds(28, "Throws `IllegalArgumentException` if which is not 0 to 3",
            StateEdgesTest::meanNoStatistic);
    }

    private static void dividedOnce() {
        for (int size = 1; size <= 6; size++) {
            Houses houses = Houses.many(size);
            for (int family = 0; family <= 2; family++) {
                for (int which = 0; which <= 3; which++) {
                    int of = family;
                    int by = which;
                    int count = houses.next().objects(of);
                    long sum = 0;
                    for (int rank = 0; rank < count; rank++) {
                        sum += houses.next().statistic(of, by, rank);
                    }
                    double due = (double) sum / (double) count;
                    Check.due("mean(" + of + ", " + by + ") of " + size, due, () -> houses.next().mean(of, by));
                }
            }
        }
        Check.due("mean(0, 3) of 6, by hand", 2380.0 / 132.0, () -> Houses.of(6).mean(0, 3));
        Check.due("mean(2, 2) of 6, by hand", 1764.0 / 720.0, () -> Houses.of(6).mean(2, 2));
        Check.due("mean(2, 1) of 1, of nothing", 0.0, () -> Houses.of(1).mean(2, 1));
    }

    private static void meanNoFamily() {
        for (int family : NO_FAMILIES) {
            Refused.outside("mean(" + family + ", 0)", Refused::busy, house -> house.mean(family, 0));
        }
    }

    private static void meanNoStatistic() {
        for (int which : NO_STATISTICS) {
            Refused.argument("mean(0, " + which + ")", Refused::busy, house -> house.mean(0, which));
            Refused.argument("mean(2, " + which + ")", Refused::busy, house -> house.mean(2, which));
        }
    }

    // ---- 29

    private static void digest() {
        Sentences.holds(29, "A number d starts with 9503", StateEdgesTest::digestOfNew);
        Sentences.holds(29, "which wraps around as a 64-bit integer", StateEdgesTest::digestWrapsAround);
        Sentences.holds(29, "MAP by MAP ofMap() of 0 to 7, image() of 0, rounds(), period(), against() of 0 and 0; "
            + "WALKER by WALKER ofWalker() of 0 to 4; CLAIM by CLAIM ofClaim() of 0 to 4",
            StateEdgesTest::digestOfFull);
        Sentences.holds(29, "Returns d.", StateEdgesTest::digestAsksAlone);
    }

    private static void digestOfNew() {
        // SIZE 3, six times 0; 5 of signs 1 -1 1 -5; 5 of -3 -1 -3 -1; 6 of -2 0 0 -2; sorted(1) 5
        int[] all = {3, 0, 0, 0, 0, 0, 0, 5, 1, -1, 1, -5, 5, -3, -1, -3, -1, 6, -2, 0, 0, -2, 5};
        BigInteger d = BigInteger.valueOf(9503);
        for (int v : all) {
            d = d.multiply(BigInteger.valueOf(31)).add(BigInteger.valueOf(v));
        }
        Check.due("digest() of a new one", d.longValue(), () -> new Bijectory().digest());
        Check.due("digest() of a new one, worked out", 1331213522775503727L, () -> new Bijectory().digest());
    }

    /** The number as it would be without an end; what does not fit into 64 bits is cut off at the end alone. */
    private static BigInteger asked(Bijectory house) {
        BigInteger d = BigInteger.valueOf(9503);
        for (int what = 0; what <= 6; what++) {
            d = next(d, house.many(what));
        }
        for (int family = 0; family <= 2; family++) {
            d = next(d, house.objects(family));
            for (int which = 0; which <= 3; which++) {
                d = next(d, house.signs(family, which));
            }
        }
        for (int map = 0; map < house.many(1); map++) {
            for (int what = 0; what <= 7; what++) {
                d = next(d, house.ofMap(map, what));
            }
            d = next(d, house.image(map, 0));
            d = next(d, house.rounds(map));
            d = next(d, house.period(map));
            d = next(d, house.against(map, 0, 0));
        }
        for (int walker = 0; walker < house.many(2); walker++) {
            for (int what = 0; what <= 4; what++) {
                d = next(d, house.ofWalker(walker, what));
            }
        }
        for (int claim = 0; claim < house.many(3); claim++) {
            for (int what = 0; what <= 4; what++) {
                d = next(d, house.ofClaim(claim, what));
            }
        }
        return next(d, house.sorted(1));
    }

    private static BigInteger next(BigInteger d, long v) {
        return d.multiply(BigInteger.valueOf(31)).add(BigInteger.valueOf(v));
    }

    private static void digestWrapsAround() {
        for (int size = 1; size <= 6; size++) {
            Bijectory house = Houses.of(size);
            BigInteger whole = asked(house);
            int of = size;
            Check.due("asked, without an end, is above 64 bits", true, () -> whole.bitLength() > 64);
            Check.due("digest() of " + of, whole.longValue(), house::digest);
        }
    }

    private static void digestOfFull() {
        Refused.Recipe[] recipes = {Refused::busy, Refused::busyWithEightMaps, Refused::busyWithFourWalkers,
            Refused::busyWithEightClaims, Refused::busyWithSixSteps, StateEdgesTest::full};
        for (Refused.Recipe recipe : recipes) {
            Bijectory house = Refused.of(recipe);
            Check.due("digest() of a house that is told", asked(house).longValue(), house::digest);
        }
    }

    private static void digestAsksAlone() {
        Bijectory house = Refused.of(Refused::busyWithEightClaims);
        long once = house.digest();
        for (int call = 0; call < 5; call++) {
            Check.due("digest() again", once, house::digest);
        }
        manyAre(house, 3, 5, 3, 8, 6, 7, 9);
    }
}
