/** The edges of the document's section 4: WALKERS that come and go, TRIPS and BACKS, CLAIMS and their SIZES. */
public final class WalkersEdgesTest {
    public static void main(String[] args) {
        told("WALKERS: at most 4, numbered from 0", WalkersEdgesTest::fourWalkers);
        told("each at an OBJECT of the SIZE that was told last", WalkersEdgesTest::ofTheLastSize);
        told("as a SIZE is told, they are gone (the next one is 0 again)", WalkersEdgesTest::goneWithTheSize);
        told("To SEND one: so often it goes to the IMAGE (by a MAP FROM its FAMILY).", WalkersEdgesTest::soOften);
        told("It has HOME where it began", WalkersEdgesTest::home);
        told("TRIPS is how often it went", WalkersEdgesTest::trips);
        told("BACKS how often it was HOME", WalkersEdgesTest::backsOnTheWay);
        told("(the same FAMILY and CODE)", WalkersEdgesTest::backsInTheSameFamily);
        told("(also if it did not leave it)", WalkersEdgesTest::backsWithoutLeaving);
        told("CLAIMS: at most 8, numbered from 0", WalkersEdgesTest::eightClaims);
        told("each of a MAP and two statistics", WalkersEdgesTest::claimsOfTheSame);
        told("with the set of SIZES for which it was TRIED (by claim(), and by trial() for the SIZE of then)",
            WalkersEdgesTest::tried);
        told("and of those for which it was REFUTED, if the MAP did not KEEP these", WalkersEdgesTest::refuted);
        Sentences.end();
    }

    private static void told(String sentence, Runnable test) {
        Sentences.holds(Sentences.TERMS, sentence, test);
    }

    private static void walkerIs(Bijectory house, int walker, int... due) {
        for (int what = 0; what < due.length; what++) {
            int of = what;
            Check.due("ofWalker(" + walker + ", " + of + ")", due[of], () -> house.ofWalker(walker, of));
        }
    }

    // ---- WALKERS

    private static void fourWalkers() {
        Bijectory house = new Bijectory();
        for (int number = 0; number < 4; number++) {
            int due = number;
            Check.outside("ofWalker(" + number + ", 0) ahead of it", () -> house.ofWalker(due, 0));
            Check.due("walker(2, 231) number " + number, due, () -> house.walker(2, 231));
        }
        Check.badState("a fifth one", () -> house.walker(2, 231));
        Check.due("how many", 4, () -> house.many(2));
        for (int number = 0; number < 4; number++) {
            walkerIs(house, number, 2, 231, 231, 0, 0);
        }
        for (int number : new int[] {-1, 4, Integer.MIN_VALUE, Integer.MAX_VALUE}) {
            Check.outside("ofWalker(" + number + ", 0)", () -> house.ofWalker(number, 0));
        }
    }

    private static void ofTheLastSize() {
        int[] paths = {0, 2, 12, 56, 240, 992, 4032};
        Bijectory house = new Bijectory();
        for (int size = 1; size <= 6; size++) {
            house.size(size);
            for (int other = 1; other <= 6; other++) {
                int code = paths[other];
                Object due = other == size ? 0 : "throws.IllegalArgumentException";
                Check.due("walker(0, " + code + ") of " + size, due, () -> house.walker(0, code));
            }
        }
    }

    private static void goneWithTheSize() {
        for (int size : new int[] {3, 4, 1, 6}) {
            Bijectory house = new Bijectory();
            house.map(9);
            for (int number = 0; number < 4; number++) {
                house.walker(2, 231);
                house.send(number, 0, 2);
            }
            Check.due("size(" + size + ")", 4, () -> house.size(size));
            Check.due("how many behind it", 0, () -> house.many(2));
            for (int number = 0; number < 4; number++) {
                int gone = number;
                Check.outside("ofWalker(" + number + ", 0) behind it", () -> house.ofWalker(gone, 0));
                Check.outside("send(" + number + ", 0, 1) behind it", () -> house.send(gone, 0, 1));
            }
            int code = house.unrank(2, 0);
            Check.due("the next one", 0, () -> house.walker(2, code));
            walkerIs(house, 0, 2, code, code, 0, 0);
            Check.outside("ofWalker(1, 0), as one is there", () -> house.ofWalker(1, 0));
            for (int number = 1; number < 4; number++) {
                int due = number;
                Check.due("walker number " + number, due, () -> house.walker(2, code));
            }
            Check.badState("a fifth one again", () -> house.walker(2, code));
            Check.due("size(" + size + ") again", 4, () -> house.size(size));
            Check.due("size(" + size + ") once more", 0, () -> house.size(size));
        }
    }

    private static void soOften() {
        // ROLL goes 44, 56, 50, 44
        int[] codes = {44, 56, 50};
        for (int often : new int[] {1, 2, 3, 4, 58, 59, 60}) {
            Bijectory house = Houses.with(3, 5);
            house.walker(0, 44);
            Check.due("send(0, 0, " + often + ")", codes[often % 3], () -> house.send(0, 0, often));
            walkerIs(house, 0, 0, codes[often % 3], 44, often, often / 3);
        }
        for (int often : new int[] {0, 61, -1, Integer.MIN_VALUE, Integer.MAX_VALUE}) {
            Bijectory house = Houses.with(3, 5);
            house.walker(0, 44);
            Check.badArgument("send(0, 0, " + often + ")", () -> house.send(0, 0, often));
            walkerIs(house, 0, 0, 44, 44, 0, 0);
        }
    }

    private static void home() {
        Bijectory house = Houses.with(3, 0, 3, 6);
        house.walker(0, 44);
        walkerIs(house, 0, 0, 44, 44, 0, 0);
        Check.due("send(0, 0, 1)", 213, () -> house.send(0, 0, 1));
        walkerIs(house, 0, 2, 213, 44, 1, 0);
    }

    private static void trips() {
        Bijectory house = Houses.with(3, 5, 5, 5);
        house.walker(0, 44);
        house.walker(0, 42);
        house.send(0, 0, 60);
        house.send(0, 0, 1);
        house.send(1, 0, 2);
        // a MAP of three STEPS is one trip
        Check.due("ofWalker(0, 3)", 61, () -> house.ofWalker(0, 3));
        Check.due("ofWalker(1, 3)", 2, () -> house.ofWalker(1, 3));
        Check.due("many(5)", 63, () -> house.many(5));
    }

    private static void backsOnTheWay() {
        Bijectory house = Houses.with(3, 5);
        house.walker(0, 44);
        Check.due("BACKS of a new one, though it is HOME", 0, () -> house.ofWalker(0, 4));
        house.send(0, 0, 2);
        Check.due("BACKS ahead of HOME", 0, () -> house.ofWalker(0, 4));
        house.send(0, 0, 1);
        Check.due("BACKS at HOME", 1, () -> house.ofWalker(0, 4));
        house.send(0, 0, 59);
        Check.due("BACKS behind 59 more, HOME on the way", 20, () -> house.ofWalker(0, 4));
        Check.due("not at HOME now", 50, () -> house.ofWalker(0, 1));
    }

    private static void backsInTheSameFamily() {
        Bijectory house = Houses.with(3, 0);
        house.map(2);
        house.walker(0, 50);
        Check.due("a TREE of the same CODE", 50, () -> house.send(0, 0, 1));
        walkerIs(house, 0, 1, 50, 50, 1, 0);
        Check.due("the PATH again", 50, () -> house.send(0, 1, 1));
        walkerIs(house, 0, 0, 50, 50, 2, 1);
        // the same RANK is no more the same OBJECT than the same CODE
        Bijectory ranks = Houses.with(1, 0, 6);
        ranks.walker(0, 2);
        Check.due("the ORDER of the same RANK", 1, () -> ranks.send(0, 0, 1));
        walkerIs(ranks, 0, 2, 1, 2, 1, 0);
    }

    private static void backsWithoutLeaving() {
        Bijectory house = Houses.with(3, 3);
        house.walker(1, 50);
        house.walker(1, 44);
        Check.due("send(0, 0, 1)", 50, () -> house.send(0, 0, 1));
        walkerIs(house, 0, 1, 50, 50, 1, 1);
        Check.due("send(0, 0, 60)", 50, () -> house.send(0, 0, 60));
        walkerIs(house, 0, 1, 50, 50, 61, 61);
        Check.due("send(1, 0, 60)", 44, () -> house.send(1, 0, 60));
        walkerIs(house, 1, 1, 44, 44, 60, 30);
    }

    // ---- CLAIMS

    private static void eightClaims() {
        Bijectory house = Houses.with(3, 9);
        for (int number = 0; number < 8; number++) {
            int due = number;
            Check.outside("ofClaim(" + number + ", 0) ahead of it", () -> house.ofClaim(due, 0));
            Check.outside("trial(" + number + ") ahead of it", () -> house.trial(due));
            Check.due("claim(0, 3, " + number % 4 + ")", due, () -> house.claim(0, 3, due % 4));
        }
        Check.badState("a ninth one", () -> house.claim(0, 0, 0));
        Check.due("how many", 8, () -> house.many(3));
        Check.due("ofClaim(7, 2)", 3, () -> house.ofClaim(7, 2));
        house.size(6);
        Check.due("how many for another SIZE", 8, () -> house.many(3));
        Check.badState("a ninth one for another SIZE", () -> house.claim(0, 0, 0));
        for (int number : Refused.BEYOND_EIGHT) {
            Check.outside("ofClaim(" + number + ", 0)", () -> house.ofClaim(number, 0));
        }
    }

    private static void claimsOfTheSame() {
        Bijectory house = Houses.with(3, 9);
        house.map(8);
        house.claim(0, 1, 2);
        house.claim(0, 1, 2);
        house.claim(1, 3, 0);
        house.size(2);
        house.trial(1);
        claimIs(house, 0, 0, 1, 2, 8, 8);
        claimIs(house, 1, 0, 1, 2, 12, 12);
        claimIs(house, 2, 1, 3, 0, 8, 8);
    }

    private static void claimIs(Bijectory house, int claim, int... due) {
        for (int what = 0; what < due.length; what++) {
            int of = what;
            Check.due("ofClaim(" + claim + ", " + of + ")", due[of], () -> house.ofClaim(claim, of));
        }
    }

    private static void tried() {
        int sum = 0;
        Bijectory house = Houses.with(6, 8);
        house.claim(0, 1, 1);
        Check.due("TRIED by claim()", 64, () -> house.ofClaim(0, 3));
        for (int size = 1; size <= 6; size++) {
            house.size(size);
            int before = sum | 64;
            Check.due("TRIED as size(" + size + ") was told alone", before, () -> house.ofClaim(0, 3));
            house.against(0, 1, 1);
            Check.due("TRIED as against() was asked alone", before, () -> house.ofClaim(0, 3));
            sum += 1 << size;
            int due = sum | 64;
            house.trial(0);
            Check.due("TRIED for " + size, due, () -> house.ofClaim(0, 3));
            house.trial(0);
            Check.due("TRIED for " + size + " twice", due, () -> house.ofClaim(0, 3));
        }
        for (int size = 1; size <= 6; size++) {
            Bijectory one = Houses.with(size, 8);
            one.claim(0, 1, 1);
            Check.due("TRIED by claim() of " + size, 1 << size, () -> one.ofClaim(0, 3));
        }
    }

    private static void refuted() {
        // TURN keeps DROPS for 1 alone, INVERT keeps them for 1 to 3
        Bijectory house = Houses.with(1, 9);
        house.map(8);
        house.claim(0, 0, 0);
        house.claim(1, 0, 0);
        int[] byTurn = {0, 0, 4, 12, 28, 60, 124};
        for (int size = 1; size <= 6; size++) {
            house.size(size);
            int is = size;
            Check.due("trial(0) of " + size, size == 1, () -> house.trial(0));
            Check.due("REFUTED, TURN of " + size, byTurn[size], () -> house.ofClaim(0, 4));
            int byInvert = size < 4 ? 0 : byTurn[size] - 12;
            Check.due("trial(1) of " + size, is < 4, () -> house.trial(1));
            Check.due("REFUTED, INVERT of " + size, byInvert, () -> house.ofClaim(1, 4));
        }
        house.size(1);
        Check.due("trial(0) of 1 again", true, () -> house.trial(0));
        Check.due("REFUTED still", 124, () -> house.ofClaim(0, 4));
        Check.due("how many REFUTED", 2, () -> house.many(4));
    }
}
