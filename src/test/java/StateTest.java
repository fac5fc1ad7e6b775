/** Promises 25 to 29: what one asks of walkers, claims and the whole house. */
public final class StateTest {
    public static void main(String[] args) {
        ofWalker();
        ofClaim();
        many();
        mean();
        digestOfRuns();
        digestAsAsked();
        Check.end();
    }

    private static void walkerIs(String told, Bijectory house, int walker, int... due) {
        for (int what = 0; what < due.length; what++) {
            int of = what;
            Check.due("25: " + told + ", ofWalker(" + walker + ", " + of + ")", due[of],
                () -> house.ofWalker(walker, of));
        }
    }

    private static void ofWalker() {
        Bijectory house = new Bijectory();
        Check.outside("25: none yet", () -> house.ofWalker(0, 0));
        Check.outside("25: none yet, and no such what", () -> house.ofWalker(0, 5));
        house.map(7);
        house.map(6);
        house.map(9);
        house.walker(2, 213);
        house.walker(1, 44);
        walkerIs("new", house, 0, 2, 213, 213, 0, 0);
        walkerIs("new", house, 1, 1, 44, 44, 0, 0);
        house.send(0, 0, 1);
        walkerIs("by SHAPE", house, 0, 1, 52, 213, 1, 0);
        house.send(0, 1, 1);
        walkerIs("back by LABEL", house, 0, 2, 213, 213, 2, 1);
        house.send(0, 2, 3);
        walkerIs("by TURN", house, 0, 2, 312, 213, 5, 2);
        walkerIs("not sent", house, 1, 1, 44, 44, 0, 0);
        Check.outside("25: no such walker", () -> house.ofWalker(2, 0));
        Check.outside("25: no such walker", () -> house.ofWalker(-1, 0));
        Check.outside("25: no such walker nor what", () -> house.ofWalker(2, 5));
        Check.badArgument("25: ofWalker(0, 5)", () -> house.ofWalker(0, 5));
        Check.badArgument("25: ofWalker(0, -1)", () -> house.ofWalker(0, -1));
        house.size(3);
        house.walker(0, 56);
        walkerIs("anew", house, 0, 0, 56, 56, 0, 0);
    }

    private static void claimIs(String told, Bijectory house, int claim, int... due) {
        for (int what = 0; what < due.length; what++) {
            int of = what;
            Check.due("26: " + told + ", ofClaim(" + claim + ", " + of + ")", due[of], () -> house.ofClaim(claim, of));
        }
    }

    private static void ofClaim() {
        Bijectory house = new Bijectory();
        Check.outside("26: none yet", () -> house.ofClaim(0, 0));
        house.map(4);
        house.map(8);
        house.claim(1, 2, 3);
        house.claim(0, 3, 3);
        claimIs("records and fixed by INVERT", house, 0, 1, 2, 3, 8, 8);
        claimIs("areas by BACKWARD", house, 1, 0, 3, 3, 8, 0);
        for (int size = 1; size <= 6; size++) {
            house.size(size);
            house.trial(0);
            house.trial(1);
        }
        claimIs("records and fixed by INVERT, all sizes", house, 0, 1, 2, 3, 126, 124);
        claimIs("areas by BACKWARD, all sizes", house, 1, 0, 3, 3, 126, 0);
        Check.outside("26: no such claim", () -> house.ofClaim(2, 0));
        Check.outside("26: no such claim", () -> house.ofClaim(-1, 0));
        Check.outside("26: no such claim nor what", () -> house.ofClaim(2, 5));
        Check.badArgument("26: ofClaim(0, 5)", () -> house.ofClaim(0, 5));
        Check.badArgument("26: ofClaim(0, -1)", () -> house.ofClaim(0, -1));
    }

    private static void manyAre(String told, Bijectory house, int... due) {
        for (int what = 0; what < due.length; what++) {
            int of = what;
            Check.due("27: " + told + ", many(" + of + ")", due[of], () -> house.many(of));
        }
    }

    private static void many() {
        Bijectory house = new Bijectory();
        manyAre("new", house, 3, 0, 0, 0, 0, 0, 0);
        house.size(4);
        house.map(9);
        house.map(9);
        house.walker(2, 1234);
        house.walker(2, 4321);
        house.walker(0, 170);
        house.claim(0, 0, 0);
        house.claim(1, 0, 0);
        house.claim(1, 1, 1);
        house.claim(1, 1, 1);
        house.send(0, 0, 7);
        house.send(1, 1, 2);
        manyAre("told", house, 4, 2, 3, 4, 4, 9, 4);
        house.size(1);
        house.trial(3);
        house.walker(2, 1);
        house.send(0, 0, 1);
        manyAre("told anew", house, 1, 2, 1, 4, 4, 10, 5);
        Check.badArgument("27: many(7)", () -> house.many(7));
        Check.badArgument("27: many(-1)", () -> house.many(-1));
    }

    private static void mean() {
        Bijectory house = new Bijectory();
        Check.due("28: inversions", 1.5, () -> house.mean(2, 1));
        Check.due("28: areas", 5.8, () -> house.mean(0, 3));
        Check.due("28: depths", 2.8, () -> house.mean(1, 2));
        Check.due("28: records", 11.0 / 6.0, () -> house.mean(2, 2));
        Check.outside("28: no such family", () -> house.mean(3, 0));
        Check.outside("28: no such family nor statistic", () -> house.mean(-1, 4));
        Check.badArgument("28: mean(0, 4)", () -> house.mean(0, 4));
        Check.badArgument("28: mean(2, -1)", () -> house.mean(2, -1));
        house.size(5);
        Check.due("28: spines of 5", 90.0 / 42.0, () -> house.mean(1, 1));
        house.size(6);
        Check.due("28: inversions of 6", 7.5, () -> house.mean(2, 1));
        Check.due("28: fixed of 6", 1.0, () -> house.mean(2, 3));
        house.size(1);
        Check.due("28: areas of 1", 1.0, () -> house.mean(0, 3));
        Check.due("28: inversions of 1", 0.0, () -> house.mean(2, 1));
    }

    private static void digestOfRuns() {
        Bijectory house = new Bijectory();
        Check.due("29: new", 1331213522775503727L, house::digest);
        house.size(5);
        house.map(0);
        house.then(0, 3);
        house.then(0, 2);
        house.map(1);
        house.then(1, 2);
        Check.due("29: two maps of 5", 1103605215953440043L, house::digest);
        Check.due("29: asked again", 1103605215953440043L, house::digest);
    }

    private static void digestAsAsked() {
        for (int size = 1; size <= 6; size++) {
            Bijectory house = Refused.of(StateTest::told);
            // what was found of the maps for another size is of no use for this one
            house.size(7 - size);
            house.digest();
            house.size(size);
            if (size > 2) {
                house.map(size + 2);
                house.claim(2, 0, size % 4);
                house.walker(2, house.unrank(2, 1));
                house.walker(0, house.unrank(0, size - 1));
                house.send(1, 1, size);
            }
            Check.due("29: size " + size, asked(house), house::digest);
        }
    }

    private static void told(Bijectory house) {
        house.map(7);
        house.map(5);
        house.then(1, 4);
    }

    private static long asked(Bijectory house) {
        long d = 9503;
        for (int what = 0; what <= 6; what++) {
            d = d * 31 + house.many(what);
        }
        for (int family = 0; family <= 2; family++) {
            d = d * 31 + house.objects(family);
            for (int which = 0; which <= 3; which++) {
                d = d * 31 + house.signs(family, which);
            }
        }
        for (int map = 0; map < house.many(1); map++) {
            for (int what = 0; what <= 7; what++) {
                d = d * 31 + house.ofMap(map, what);
            }
            d = d * 31 + house.image(map, 0);
            d = d * 31 + house.rounds(map);
            d = d * 31 + house.period(map);
            d = d * 31 + house.against(map, 0, 0);
        }
        for (int walker = 0; walker < house.many(2); walker++) {
            for (int what = 0; what <= 4; what++) {
                d = d * 31 + house.ofWalker(walker, what);
            }
        }
        for (int claim = 0; claim < house.many(3); claim++) {
            for (int what = 0; what <= 4; what++) {
                d = d * 31 + house.ofClaim(claim, what);
            }
        }
        return d * 31 + house.sorted(1);
    }
}
