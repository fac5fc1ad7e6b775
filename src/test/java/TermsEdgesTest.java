/** The edges of the document's terms: the calls of an object, the SIZE, the three FAMILIES, CODES and RANKS. */
public final class TermsEdgesTest {
    private static final int[] CATALAN = {1, 1, 2, 5, 14, 42, 132};
    private static final int[] FACTORIAL = {1, 1, 2, 6, 24, 120, 720};
    private static final int[] LEAST_PATH = {0, 2, 10, 42, 170, 682, 2730};
    private static final int[] GREATEST_PATH = {0, 2, 12, 56, 240, 992, 4032};
    private static final int[] LEAST_ORDER = {0, 1, 12, 123, 1234, 12345, 123456};
    private static final int[] GREATEST_ORDER = {0, 1, 21, 321, 4321, 54321, 654321};

    public static void main(String[] args) {
        told("An object is used for at most 512 calls after it has been made", TermsEdgesTest::lastCallIsRight);
        told("An object is used for at most 512 calls after it has been made", TermsEdgesTest::allCallsAreTrials);
        told("An object is used for at most 512 calls after it has been made", TermsEdgesTest::allCallsAreSends);
        told("NONE is -1.", TermsEdgesTest::none);
        told("The SIZE n is 3 at first", TermsEdgesTest::sizeAtFirst);
        told("and 1 to 6.", TermsEdgesTest::sizes);
        told("There are three FAMILIES", TermsEdgesTest::families);
        told("2 n steps, n of them up, n down", TermsEdgesTest::pathsOfOtherLengths);
        told("that never go below the ground where they begin", TermsEdgesTest::pathsBelowTheGround);
        told("the steps as binary digits, from the first one on (the greatest digit), 1 for up, 0 for down",
            TermsEdgesTest::pathDigits);
        told("each has a left and a right subtree, either of which may be empty", TermsEdgesTest::emptySubtrees);
        told("that of the PATH which step 0 (section 2) makes a TREE of", TermsEdgesTest::treeCodes);
        told("the numbers 1 to n in some order", TermsEdgesTest::noOrders);
        told("they are its decimal digits, from the left", TermsEdgesTest::orderDigits);
        told("the smallest one first, from 0 on", TermsEdgesTest::ranks);
        told("the place of an OBJECT among all of its FAMILY and the SIZE, by CODES", TermsEdgesTest::ranksGoUp);
        Sentences.end();
    }

    private static void told(String sentence, Runnable test) {
        Sentences.holds(Sentences.TERMS, sentence, test);
    }

    // ---- the calls of an object

    private static void lastCallIsRight() {
        Bijectory house = new Bijectory();
        int calls = 0;
        for (; calls < 502; calls++) {
            house.size(calls % 6 + 1);
        }
        Bijectory twin = new Bijectory();
        twin.size(501 % 6 + 1);
        for (Bijectory each : new Bijectory[] {house, twin}) {
            for (int number = 0; number < 8; number++) {
                each.map(number);
            }
            each.claim(7, 0, 0);
        }
        long due = twin.digest();
        Check.due("digest() as the call 512", due, house::digest);
    }

    private static void allCallsAreTrials() {
        Bijectory house = Houses.with(3, 9);
        house.claim(0, 0, 0);
        for (int call = 4; call < 512; call++) {
            house.trial(0);
        }
        Check.due("many(6) as the call 512", 509, () -> house.many(6));
    }

    private static void allCallsAreSends() {
        Bijectory house = Houses.with(3, 3);
        house.walker(1, 50);
        for (int call = 4; call < 510; call++) {
            house.send(0, 0, 60);
        }
        Check.due("ofWalker(0, 3) as the call 510", 30360, () -> house.ofWalker(0, 3));
        Check.due("ofWalker(0, 4) as the call 511", 30360, () -> house.ofWalker(0, 4));
        Check.due("many(5) as the call 512", 30360, () -> house.many(5));
    }

    private static void none() {
        Check.due("rank(0, 0)", -1, () -> Houses.of(3).rank(0, 0));
        Check.due("ofMap(0, 6) of GROW", -1, () -> Houses.with(3, 0).ofMap(0, 6));
        Check.due("source(0, 1) of SORT", -1, () -> Houses.with(3, 10).source(0, 1));
        Check.due("rounds(0) of SORT", -1, () -> Houses.with(3, 10).rounds(0));
        Check.due("period(0) of SORT", -1L, () -> Houses.with(3, 10).period(0));
        Check.due("against(0, 3, 0) of LABEL", -1, () -> Houses.with(3, 6).against(0, 3, 0));
    }

    // ---- SIZES and FAMILIES

    private static void sizeAtFirst() {
        Bijectory house = new Bijectory();
        Check.due("many(0)", 3, () -> house.many(0));
        Check.due("objects(0)", 5, () -> house.objects(0));
        Check.due("objects(2)", 6, () -> house.objects(2));
        Check.due("unrank(2, 5)", 321, () -> house.unrank(2, 5));
    }

    private static void sizes() {
        for (int size = 1; size <= 6; size++) {
            int is = size;
            Bijectory house = new Bijectory();
            Check.due("size(" + is + ")", 0, () -> house.size(is));
            Check.due("many(0)", is, () -> house.many(0));
        }
        for (int size : new int[] {0, 7, -1, Integer.MIN_VALUE, Integer.MAX_VALUE}) {
            Refused.argument("size(" + size + ")", Refused::busy, house -> house.size(size));
        }
    }

    private static void families() {
        for (int family = -1; family <= 3; family++) {
            int of = family;
            boolean there = family >= 0 && family <= 2;
            Bijectory house = Houses.of(1);
            int code = family == 2 ? 1 : 2;
            Check.due("objects(" + of + ")", there ? 1 : outside(), () -> house.objects(of));
            Check.due("unrank(" + of + ", 0)", there ? code : outside(), () -> house.unrank(of, 0));
            Check.due("rank(" + of + ", " + code + ")", there ? 0 : outside(), () -> house.rank(of, code));
            Check.due("spread(" + of + ", 0, 9)", there ? 0 : outside(), () -> house.spread(of, 0, 9));
            Check.due("alike(" + of + ", 0, 0, 0)", there ? of != 2 : outside(), () -> house.alike(of, 0, 0, 0));
            Check.due("alike(0, 0, " + of + ", 0)", there ? of != 2 : outside(), () -> house.alike(0, 0, of, 0));
            Check.due("statistic(" + of + ", 2, 0)", there ? 1 : outside(), () -> house.statistic(of, 2, 0));
            Check.due("signs(" + of + ", 2)", there ? -1 : outside(), () -> house.signs(of, 2));
            Check.due("mean(" + of + ", 2)", there ? 1.0 : outside(), () -> house.mean(of, 2));
            Check.due("walker(" + of + ", " + code + ")", there ? 0 : outside(), () -> house.walker(of, code));
        }
    }

    private static String outside() {
        return "throws.IndexOutOfBoundsException";
    }

    // ---- CODES

    private static void noCode(int size, int family, int code) {
        Check.due("rank(" + family + ", " + code + ") of " + size, -1, () -> Houses.of(size).rank(family, code));
        Refused.argument("walker(" + family + ", " + code + ") of " + size, house -> house.size(size),
            house -> house.walker(family, code));
    }

    private static void isCode(int size, int family, int code) {
        Check.due("rank(" + family + ", " + code + ") of " + size + " and back", code, () -> {
            Bijectory house = Houses.of(size);
            return house.unrank(family, house.rank(family, code));
        });
        Check.due("walker(" + family + ", " + code + ") of " + size, 0, () -> Houses.of(size).walker(family, code));
    }

    private static void pathsOfOtherLengths() {
        for (int size = 1; size <= 6; size++) {
            for (int other = 1; other <= 6; other++) {
                if (other != size) {
                    noCode(size, 0, LEAST_PATH[other]);
                    noCode(size, 0, GREATEST_PATH[other]);
                    noCode(size, 1, GREATEST_PATH[other]);
                }
            }
            int oneDigitAhead = 1 << 2 * size;
            noCode(size, 0, oneDigitAhead + LEAST_PATH[size]);
            noCode(size, 0, oneDigitAhead * 2 + GREATEST_PATH[size]);
            noCode(size, 0, oneDigitAhead - 1);
            noCode(size, 0, 0);
            noCode(size, 0, Integer.MIN_VALUE + GREATEST_PATH[size]);
            noCode(size, 0, -GREATEST_PATH[size]);
        }
        // four up and two down, never below; two up and four down
        noCode(3, 0, 58);
        noCode(3, 0, 40);
    }

    private static void pathsBelowTheGround() {
        // ududud and uuddud come to the ground ahead of the end, uuuddd at the end alone
        isCode(3, 0, 42);
        isCode(3, 0, 56);
        isCode(3, 0, 50);
        // three up and three down, but below the ground: at first, in the middle, or at last (uudddu, ududdu)
        for (int code : new int[] {7, 11, 13, 14, 19, 21, 22, 25, 26, 28, 35, 37, 38, 41, 49}) {
            noCode(3, 0, code);
            noCode(3, 1, code);
        }
        noCode(1, 0, 1);
        for (int size = 1; size <= 6; size++) {
            int found = 0;
            Houses houses = Houses.many(size);
            for (int code = 0; code <= 1 << 2 * size; code++) {
                found += houses.next().rank(0, code) >= 0 ? 1 : 0;
            }
            int all = found;
            Check.due("how many CODES of PATHS of " + size, CATALAN[size], () -> all);
        }
    }

    private static void pathDigits() {
        // uduudd becomes uuuddd by ROLL, uuddud becomes uduudd
        Bijectory house = Houses.with(3, 5);
        house.walker(0, 44);
        house.walker(0, 50);
        Check.due("ROLL of uduudd", 56, () -> house.send(0, 0, 1));
        Check.due("ROLL of uuddud", 44, () -> house.send(1, 0, 1));
        Check.due("the one PATH of 1", 2, () -> Houses.of(1).unrank(0, 0));
        Check.due("AREA of the greatest CODE", 36, () -> Houses.of(6).statistic(0, 3, 131));
        Check.due("AREA of the least CODE", 6, () -> Houses.of(6).statistic(0, 3, 0));
    }

    private static void emptySubtrees() {
        Bijectory one = Houses.of(1);
        Check.due("both empty: TIPS", 1, () -> one.statistic(1, 0, 0));
        Check.due("both empty: RIGHTS", 0, () -> one.statistic(1, 3, 0));
        Bijectory two = Houses.of(2);
        Check.due("left empty: CODE", 10, () -> two.unrank(1, 0));
        Check.due("left empty: SPINE", 1, () -> two.statistic(1, 1, 0));
        Check.due("left empty: RIGHTS", 1, () -> two.statistic(1, 3, 0));
        Check.due("right empty: CODE", 12, () -> two.unrank(1, 1));
        Check.due("right empty: SPINE", 2, () -> two.statistic(1, 1, 1));
        Check.due("right empty: RIGHTS", 0, () -> two.statistic(1, 3, 1));
        Check.due("no third one", outside(), () -> two.unrank(1, 2));
    }

    private static void treeCodes() {
        for (int size = 1; size <= 6; size++) {
            for (int rank = 0; rank < CATALAN[size]; rank++) {
                Bijectory house = Houses.with(size, 0);
                int at = rank;
                int code = house.unrank(0, rank);
                house.walker(0, code);
                Check.due("the TREE of the PATH " + code, code, () -> house.send(0, 0, 1));
                Check.due("its RANK", at, () -> house.rank(1, code));
            }
        }
    }

    private static void noOrders() {
        for (int code : new int[] {0, 1, 12, 21, 23, 32, 120, 103, 122, 113, 133, 333, 111, 124, 234, 423,
            1234, 3210, 1230, 2134, -123, -321, 122 + 1000, Integer.MAX_VALUE, Integer.MIN_VALUE}) {
            noCode(3, 2, code);
        }
        for (int code : new int[] {0, 2, 10, 11, 12, -1}) {
            noCode(1, 2, code);
        }
        for (int code : new int[] {123455, 123457, 654320, 654322, 765432, 234567, 12345, 1234567, 7654321, 23456}) {
            noCode(6, 2, code);
        }
        for (int size = 1; size <= 6; size++) {
            isCode(size, 2, LEAST_ORDER[size]);
            isCode(size, 2, GREATEST_ORDER[size]);
        }
        Houses houses = Houses.many(5);
        int found = 0;
        for (int code = 12345; code <= 54321; code++) {
            found += houses.next().rank(2, code) >= 0 ? 1 : 0;
        }
        int all = found;
        Check.due("how many CODES of ORDERS of 5", 120, () -> all);
    }

    private static void orderDigits() {
        // read from the right, 231 would be 132, and the other way round
        Bijectory house = Houses.of(3);
        Check.due("INVERSIONS of 231", 2, () -> house.statistic(2, 1, house.rank(2, 231)));
        Check.due("INVERSIONS of 132", 1, () -> house.statistic(2, 1, house.rank(2, 132)));
        Check.due("FIXED of 132", 1, () -> house.statistic(2, 3, house.rank(2, 132)));
        Check.due("FIXED of 231", 0, () -> house.statistic(2, 3, house.rank(2, 231)));
        Check.due("the one ORDER of 1", 1, () -> Houses.of(1).unrank(2, 0));
    }

    // ---- RANKS

    private static void ranks() {
        for (int size = 1; size <= 6; size++) {
            int n = size;
            for (int family = 0; family <= 2; family++) {
                int of = family;
                int last = (family == 2 ? FACTORIAL[n] : CATALAN[n]) - 1;
                int least = family == 2 ? LEAST_ORDER[n] : LEAST_PATH[n];
                int greatest = family == 2 ? GREATEST_ORDER[n] : GREATEST_PATH[n];
                Bijectory house = Houses.of(n);
                String all = "(" + of + ", ..) of " + n;
                Check.due("unrank, the smallest " + all, least, () -> house.unrank(of, 0));
                Check.due("unrank, the greatest " + all, greatest, () -> house.unrank(of, last));
                Check.due("rank of the smallest " + all, 0, () -> house.rank(of, least));
                Check.due("rank of the greatest " + all, last, () -> house.rank(of, greatest));
                Check.due("unrank below " + all, outside(), () -> house.unrank(of, -1));
                Check.due("unrank above " + all, outside(), () -> house.unrank(of, last + 1));
            }
        }
    }

    private static void ranksGoUp() {
        for (int size = 1; size <= 6; size++) {
            for (int family = 0; family <= 2; family++) {
                Houses houses = Houses.many(size);
                int of = family;
                int before = 0;
                int count = houses.next().objects(family);
                for (int rank = 0; rank < count; rank++) {
                    int at = rank;
                    int ahead = before;
                    int code = houses.next().unrank(of, rank);
                    Check.due("unrank(" + of + ", " + at + ") is above the one ahead", true, () -> code > ahead);
                    Check.due("rank(" + of + ", " + code + ")", at, () -> houses.next().rank(of, code));
                    before = code;
                }
            }
        }
    }
}
