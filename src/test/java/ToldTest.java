/** Promises 1 to 8: what is told, and what is done. */
public final class ToldTest {
    public static void main(String[] args) {
        newObject();
        size();
        map();
        then();
        thenInAClaim();
        walker();
        claim();
        send();
        sendBacks();
        trial();
        Check.end();
    }

    private static void manyAre(Bijectory house, int... due) {
        for (int what = 0; what < due.length; what++) {
            int of = what;
            Check.due("many(" + what + ")", due[what], () -> house.many(of));
        }
    }

    /** A call that throws leaves all that the checksum tells. */
    private static void same(Bijectory house, long before) {
        Check.due("digest() behind a call that throws", before, house::digest);
    }

    private static void newObject() {
        Bijectory house = new Bijectory();
        manyAre(house, 3, 0, 0, 0, 0, 0, 0);
        Check.due("1: digest()", 1331213522775503727L, house::digest);
        Check.outside("1: ofMap(0, 0)", () -> house.ofMap(0, 0));
        Check.outside("1: ofWalker(0, 0)", () -> house.ofWalker(0, 0));
        Check.outside("1: ofClaim(0, 0)", () -> house.ofClaim(0, 0));
        Bijectory other = new Bijectory();
        other.size(5);
        other.map(0);
        manyAre(house, 3, 0, 0, 0, 0, 0, 0);
    }

    private static void size() {
        Bijectory house = new Bijectory();
        Check.due("2: size(1)", 0, () -> house.size(1));
        Check.due("2: objects(2)", 1, () -> house.objects(2));
        Check.due("2: size(6)", 0, () -> house.size(6));
        Check.due("2: objects(2)", 720, () -> house.objects(2));
        house.walker(2, 123456);
        house.walker(2, 654321);
        house.map(8);
        house.claim(0, 0, 0);
        long before = house.digest();
        Check.badArgument("2: size(0)", () -> house.size(0));
        Check.badArgument("2: size(7)", () -> house.size(7));
        Check.badArgument("2: size(-1)", () -> house.size(-1));
        Check.badArgument("2: size(the greatest)", () -> house.size(Integer.MAX_VALUE));
        same(house, before);
        manyAre(house, 6, 1, 2, 1, 1, 0, 1);
        Check.due("2: size(6) by the same one", 2, () -> house.size(6));
        manyAre(house, 6, 1, 0, 1, 1, 0, 1);
        Check.outside("2: a walker that is gone", () -> house.ofWalker(0, 0));
        Check.due("2: the next walker", 0, () -> house.walker(2, 123456));
        Check.due("2: size(2)", 1, () -> house.size(2));
        Check.due("2: size(2)", 0, () -> house.size(2));
    }

    private static void map() {
        Bijectory house = new Bijectory();
        Check.badArgument("3: map(-1)", () -> house.map(-1));
        Check.badArgument("3: map(11)", () -> house.map(11));
        for (int number = 0; number < 8; number++) {
            int of = number;
            Check.due("3: map(" + of + ")", of, () -> house.map(of));
        }
        long before = house.digest();
        Check.badState("3: a ninth map", () -> house.map(0));
        Check.badArgument("3: a ninth map of no step", () -> house.map(11));
        same(house, before);
        manyAre(house, 3, 8);
        Bijectory other = new Bijectory();
        Check.due("3: map(10)", 0, () -> other.map(10));
        Check.due("3: map(0)", 1, () -> other.map(0));
        Check.due("3: ofMap(0, 1)", 2, () -> other.ofMap(0, 1));
        Check.due("3: ofMap(1, 1)", 1, () -> other.ofMap(1, 1));
    }

    private static void then() {
        Bijectory house = new Bijectory();
        Check.outside("4: then(0, 0)", () -> house.then(0, 0));
        Check.outside("4: no map and no step", () -> house.then(0, 11));
        house.map(0);
        Check.outside("4: then(-1, 3)", () -> house.then(-1, 3));
        Check.badArgument("4: then(0, -1)", () -> house.then(0, -1));
        Check.badArgument("4: then(0, 11)", () -> house.then(0, 11));
        long before = house.digest();
        for (int step : new int[] {0, 1, 4, 5, 7, 8, 9, 10}) {
            Check.badState("4: not from trees: then(0, " + step + ")", () -> house.then(0, step));
        }
        same(house, before);
        Check.due("4: image(0, 0) of one step", 0, () -> house.image(0, 0));
        Check.due("4: period(0) of one step", -1, () -> house.period(0));
        Check.due("4: then(0, 3)", 2, () -> house.then(0, 3));
        Check.due("4: image(0, 0) of two steps", 4, () -> house.image(0, 0));
        Check.due("4: then(0, 2)", 3, () -> house.then(0, 2));
        Check.due("4: period(0) of three steps", 2L, () -> house.period(0));
        Check.due("4: then(0, 5)", 4, () -> house.then(0, 5));
        Check.due("4: period(0) of four steps", 6L, () -> house.period(0));
        Check.due("4: then(0, 4)", 5, () -> house.then(0, 4));
        Check.due("4: then(0, 0)", 6, () -> house.then(0, 0));
        long full = house.digest();
        Check.badState("4: a seventh step", () -> house.then(0, 3));
        Check.badArgument("4: a seventh one that is none", () -> house.then(0, 12));
        same(house, full);
        Check.due("4: ofMap(0, 2)", 6, () -> house.ofMap(0, 2));
        Check.due("4: ofMap(0, 1)", 1, () -> house.ofMap(0, 1));
    }

    private static void thenInAClaim() {
        Bijectory house = new Bijectory();
        house.map(9);
        house.map(9);
        house.claim(1, 0, 0);
        Check.badState("4: then(1, 9) in a claim", () -> house.then(1, 9));
        Check.badArgument("4: then(1, 11) in a claim", () -> house.then(1, 11));
        Check.due("4: then(0, 9) beside a claim", 2, () -> house.then(0, 9));
    }

    private static void walker() {
        Bijectory house = new Bijectory();
        Check.outside("5: walker(-1, 42)", () -> house.walker(-1, 42));
        Check.outside("5: walker(3, 0)", () -> house.walker(3, 0));
        for (int code : new int[] {0, -1, 41, 43, 10, 170, 57, 123, Integer.MIN_VALUE, Integer.MAX_VALUE}) {
            Check.badArgument("5: walker(0, " + code + ")", () -> house.walker(0, code));
            Check.badArgument("5: walker(1, " + code + ")", () -> house.walker(1, code));
        }
        for (int code : new int[] {0, 12, 112, 122, 124, 1234, 320, 322, -123, 42}) {
            Check.badArgument("5: walker(2, " + code + ")", () -> house.walker(2, code));
        }
        Check.due("5: walker(0, 42)", 0, () -> house.walker(0, 42));
        Check.due("5: walker(1, 56)", 1, () -> house.walker(1, 56));
        Check.due("5: walker(2, 231)", 2, () -> house.walker(2, 231));
        Check.due("5: walker(2, 231)", 3, () -> house.walker(2, 231));
        long before = house.digest();
        Check.badState("5: a fifth walker", () -> house.walker(2, 123));
        Check.badArgument("5: a fifth walker nowhere", () -> house.walker(2, 111));
        Check.outside("5: a fifth walker of no family", () -> house.walker(4, 123));
        same(house, before);
        manyAre(house, 3, 0, 4);
    }

    private static void claim() {
        Bijectory house = new Bijectory();
        Check.outside("6: claim(0, 0, 0)", () -> house.claim(0, 0, 0));
        Check.outside("6: no map, no statistic", () -> house.claim(0, 4, 4));
        house.map(6);
        Check.outside("6: claim(-1, 0, 0)", () -> house.claim(-1, 0, 0));
        Check.badArgument("6: claim(0, 4, 0)", () -> house.claim(0, 4, 0));
        Check.badArgument("6: claim(0, 0, 4)", () -> house.claim(0, 0, 4));
        Check.badArgument("6: claim(0, -1, 0)", () -> house.claim(0, -1, 0));
        Check.badArgument("6: claim(0, 0, -1)", () -> house.claim(0, 0, -1));
        Check.due("6: ofMap(0, 7)", 0, () -> house.ofMap(0, 7));
        manyAre(house, 3, 1, 0, 0, 0, 0, 0);
        Check.due("6: rights are drops", 0, () -> house.claim(0, 3, 0));
        Check.due("6: rights are inversions", 1, () -> house.claim(0, 3, 1));
        Check.due("6: ofClaim(0, 3)", 8, () -> house.ofClaim(0, 3));
        Check.due("6: ofClaim(0, 4)", 0, () -> house.ofClaim(0, 4));
        Check.due("6: ofClaim(1, 4)", 8, () -> house.ofClaim(1, 4));
        Check.due("6: ofMap(0, 7)", 1, () -> house.ofMap(0, 7));
        manyAre(house, 3, 1, 0, 2, 1, 0, 2);
        for (int number = 2; number < 8; number++) {
            Check.due("6: claim " + number, number, () -> house.claim(0, 1, 2));
        }
        long before = house.digest();
        Check.badState("6: a ninth claim", () -> house.claim(0, 0, 0));
        Check.badArgument("6: a ninth claim of no statistic", () -> house.claim(0, 0, 4));
        Check.outside("6: a ninth claim of no map", () -> house.claim(1, 0, 0));
        same(house, before);
        manyAre(house, 3, 1, 0, 8, 1, 0, 8);
    }

    private static void send() {
        Bijectory house = new Bijectory();
        Check.outside("7: send(0, 0, 1)", () -> house.send(0, 0, 1));
        house.walker(0, 42);
        Check.outside("7: no map", () -> house.send(0, 0, 1));
        house.map(5);
        house.map(6);
        house.map(0);
        Check.outside("7: no walker", () -> house.send(1, 0, 1));
        Check.outside("7: no walker, and not often", () -> house.send(-1, 0, 0));
        Check.outside("7: no map, and not often", () -> house.send(0, 3, 0));
        Check.badArgument("7: send(0, 0, 0)", () -> house.send(0, 0, 0));
        Check.badArgument("7: send(0, 0, 61)", () -> house.send(0, 0, 61));
        Check.badArgument("7: send(0, 1, -1), from elsewhere too", () -> house.send(0, 1, -1));
        Check.badState("7: send(0, 1, 1), from elsewhere", () -> house.send(0, 1, 1));
        Check.badState("7: send(0, 2, 2), no move", () -> house.send(0, 2, 2));
        manyAre(house, 3, 3, 1, 0, 0, 0, 0);
        // ROLL: 42 to 52 and back; 44 to 56, 50, 44
        Check.due("7: send(0, 0, 1)", 52, () -> house.send(0, 0, 1));
        Check.due("7: send(0, 0, 60)", 52, () -> house.send(0, 0, 60));
        Check.due("7: send(0, 0, 1)", 42, () -> house.send(0, 0, 1));
        Check.due("7: BACKS", 31, () -> house.ofWalker(0, 4));
        Check.due("7: GROW", 42, () -> house.send(0, 2, 1));
        Check.due("7: among trees", 1, () -> house.ofWalker(0, 0));
        Check.due("7: BACKS, not at the same code elsewhere", 31, () -> house.ofWalker(0, 4));
        Check.badState("7: ROLL among trees", () -> house.send(0, 0, 1));
        Check.due("7: LABEL", 321, () -> house.send(0, 1, 1));
        Check.due("7: among orders", 2, () -> house.ofWalker(0, 0));
        Check.due("7: HOME", 42, () -> house.ofWalker(0, 2));
        Check.due("7: TRIPS", 64, () -> house.ofWalker(0, 3));
        manyAre(house, 3, 3, 1, 0, 0, 64, 0);
    }

    private static void sendBacks() {
        Bijectory house = new Bijectory();
        house.map(10);
        house.map(3);
        house.walker(2, 123);
        house.walker(2, 231);
        house.walker(1, 50);
        Check.due("7: SORT leaves it", 123, () -> house.send(0, 0, 5));
        Check.due("7: BACKS though it did not leave", 5, () -> house.ofWalker(0, 4));
        Check.due("7: SORT leads away", 123, () -> house.send(1, 0, 60));
        Check.due("7: BACKS never", 0, () -> house.ofWalker(1, 4));
        Check.due("7: MIRROR leaves it", 50, () -> house.send(2, 1, 1));
        Check.due("7: BACKS", 1, () -> house.ofWalker(2, 4));
        manyAre(house, 3, 2, 3, 0, 0, 66, 0);
        house.size(4);
        manyAre(house, 4, 2, 0, 0, 0, 66, 0);
    }

    private static void trial() {
        Bijectory house = new Bijectory();
        Check.outside("8: trial(0)", () -> house.trial(0));
        house.map(9);
        house.size(1);
        house.claim(0, 0, 0);
        Check.outside("8: trial(1)", () -> house.trial(1));
        Check.outside("8: trial(-1)", () -> house.trial(-1));
        manyAre(house, 1, 1, 0, 1, 0, 0, 1);
        Check.due("8: drops are kept for 1", true, () -> house.trial(0));
        Check.due("8: TRIED", 2, () -> house.ofClaim(0, 3));
        house.size(6);
        Check.due("8: drops are not kept for 6", false, () -> house.trial(0));
        Check.due("8: TRIED", 66, () -> house.ofClaim(0, 3));
        Check.due("8: REFUTED", 64, () -> house.ofClaim(0, 4));
        house.size(1);
        Check.due("8: drops are kept for 1", true, () -> house.trial(0));
        Check.due("8: REFUTED for 6 still", 64, () -> house.ofClaim(0, 4));
        manyAre(house, 1, 1, 0, 1, 1, 0, 4);
    }
}
