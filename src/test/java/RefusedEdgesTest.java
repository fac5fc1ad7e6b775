/** Calls that throw: they change nothing, and of several exceptions the one that is named first is thrown. */
public final class RefusedEdgesTest {
    private static final String NOTHING = "A method that throws an exception changes nothing.";
    private static final String FIRST = "If several exceptions apply, the one that is named first is thrown.";

    public static void main(String[] args) {
        told(NOTHING, RefusedEdgesTest::manyRefusedCalls);
        told(NOTHING, RefusedEdgesTest::refusedCallsOfAFullHouse);
        told(FIRST, RefusedEdgesTest::map);
        told(FIRST, RefusedEdgesTest::then);
        told(FIRST, RefusedEdgesTest::walker);
        told(FIRST, RefusedEdgesTest::claim);
        told(FIRST, RefusedEdgesTest::send);
        told(FIRST, RefusedEdgesTest::statistic);
        told(FIRST, RefusedEdgesTest::spread);
        told(FIRST, RefusedEdgesTest::signs);
        told(FIRST, RefusedEdgesTest::alike);
        told(FIRST, RefusedEdgesTest::contains);
        told(FIRST, RefusedEdgesTest::ofMap);
        told(FIRST, RefusedEdgesTest::against);
        told(FIRST, RefusedEdgesTest::cancels);
        told(FIRST, RefusedEdgesTest::ofWalker);
        told(FIRST, RefusedEdgesTest::ofClaim);
        told(FIRST, RefusedEdgesTest::mean);
        Sentences.end();
    }

    private static void told(String sentence, Runnable test) {
        Sentences.holds(Sentences.TERMS, sentence, test);
    }

    // ---- changes nothing

    private static void manyRefusedCalls() {
        Bijectory house = Refused.of(Refused::busy);
        Bijectory twin = Refused.of(Refused::busy);
        Refused.Ask[] calls = {
            h -> h.size(0), h -> h.size(7), h -> h.map(-1), h -> h.map(11), h -> h.then(5, 3), h -> h.then(0, 11),
            h -> h.then(4, 9), h -> h.then(0, 3), h -> h.walker(3, 44), h -> h.walker(0, 41), h -> h.claim(5, 0, 0),
            h -> h.claim(0, 4, 0), h -> h.claim(0, 0, 4), h -> h.send(3, 0, 1), h -> h.send(0, 5, 1),
            h -> h.send(0, 0, 0), h -> h.send(0, 0, 61), h -> h.send(0, 1, 1), h -> h.send(0, 2, 2), h -> h.trial(3),
            h -> h.trial(-1), h -> h.objects(3), h -> h.unrank(0, 5), h -> h.rank(3, 0), h -> h.statistic(0, 4, 0),
            h -> h.spread(0, 4, 0), h -> h.signs(0, 4), h -> h.alike(0, 0, 0, 4), h -> h.contains(0, 11),
            h -> h.sorted(7), h -> h.ofMap(0, 8), h -> h.image(0, 5), h -> h.source(0, 5), h -> h.rounds(5),
            h -> h.period(5), h -> h.against(0, 0, 4), h -> h.cancels(0, 4), h -> h.ofWalker(0, 5),
            h -> h.ofClaim(0, 5), h -> h.many(7), h -> h.mean(0, 4)
        };
        allRefused(house, calls);
        Check.due("what the house answers behind all of them", Refused.everything(twin),
            () -> Refused.everything(house));
    }

    private static void refusedCallsOfAFullHouse() {
        Bijectory house = Refused.of(RefusedEdgesTest::full);
        Bijectory twin = Refused.of(RefusedEdgesTest::full);
        Refused.Ask[] calls = {
            h -> h.map(0), h -> h.map(10), h -> h.then(2, 3), h -> h.then(2, 2), h -> h.then(4, 8),
            h -> h.walker(0, 42), h -> h.walker(1, 42), h -> h.walker(2, 123), h -> h.claim(0, 0, 0),
            h -> h.claim(5, 3, 3), h -> h.ofMap(8, 0), h -> h.ofWalker(4, 0), h -> h.ofClaim(8, 0), h -> h.trial(8)
        };
        allRefused(house, calls);
        Check.due("what the full house answers behind all of them", Refused.everything(twin),
            () -> Refused.everything(house));
    }

    private static void full(Bijectory house) {
        Refused.busyWithSixSteps(house);
        house.map(7);
        house.map(3);
        house.map(9);
        house.walker(0, 56);
        for (int number = 3; number < 8; number++) {
            house.claim(0, 3, 3);
        }
    }

    private static void allRefused(Bijectory house, Refused.Ask[] calls) {
        for (int number = 0; number < calls.length; number++) {
            Refused.Ask call = calls[number];
            Check.due("refused call " + number + " is one", true,
                () -> Check.outcome(() -> call.of(house)).startsWith("throws.I"));
        }
    }

    // ---- the one that is named first

    private static void map() {
        for (int step : new int[] {-1, 11}) {
            Refused.argument("no step, 8 there", Refused::busyWithEightMaps, house -> house.map(step));
        }
    }

    private static void then() {
        for (int step : new int[] {-1, 11}) {
            Refused.outside("no map, no step", Refused::busy, house -> house.then(5, step));
            Refused.outside("no map, no step", Refused::busy, house -> house.then(-1, step));
            Refused.argument("no step, has 6", Refused::busyWithSixSteps, house -> house.then(2, step));
            Refused.argument("no step, in a claim", Refused::busy, house -> house.then(4, step));
            Refused.argument("no step, goes from nowhere", Refused::busy, house -> house.then(0, step));
        }
        Refused.outside("no map, as in a new one", Refused::fresh, house -> house.then(0, 11));
        Refused.state("has 6, and from elsewhere", Refused::busyWithSixSteps, house -> house.then(2, 9));
        Refused.state("in a claim, and from elsewhere", Refused::busy, house -> house.then(4, 0));
    }

    private static void walker() {
        Refused.outside("no family, no code", Refused::busy, house -> house.walker(3, 0));
        Refused.outside("no family, no code", Refused::busy, house -> house.walker(-1, -1));
        Refused.outside("no family, 4 there", Refused::busyWithFourWalkers, house -> house.walker(3, 123));
        Refused.outside("no family, no code, 4 there", Refused::busyWithFourWalkers, house -> house.walker(-1, 0));
        Refused.argument("no code, 4 there", Refused::busyWithFourWalkers, house -> house.walker(0, 41));
        Refused.argument("no code, 4 there", Refused::busyWithFourWalkers, house -> house.walker(2, 322));
        Refused.argument("a code of another size, 4 there", Refused::busyWithFourWalkers,
            house -> house.walker(2, 1234));
    }

    private static void claim() {
        Refused.outside("no map, no statistic", Refused::busy, house -> house.claim(5, 4, 0));
        Refused.outside("no map, no other one", Refused::busy, house -> house.claim(-1, 0, -1));
        Refused.outside("no map, 8 there", Refused::busyWithEightClaims, house -> house.claim(5, 0, 0));
        Refused.outside("no map, no statistic, 8 there", Refused::busyWithEightClaims, house -> house.claim(5, 4, 4));
        Refused.argument("no statistic, 8 there", Refused::busyWithEightClaims, house -> house.claim(0, 4, 0));
        Refused.argument("no other one, 8 there", Refused::busyWithEightClaims, house -> house.claim(0, 0, -1));
    }

    private static void send() {
        for (int often : new int[] {0, 61}) {
            Refused.outside("no walker, not so often", Refused::busy, house -> house.send(3, 0, often));
            Refused.outside("no map, not so often", Refused::busy, house -> house.send(0, 5, often));
            Refused.argument("not so often, from elsewhere", Refused::busy, house -> house.send(0, 1, often));
            Refused.argument("not so often, from elsewhere", Refused::busy, house -> house.send(2, 0, often));
        }
        Refused.outside("no walker, no map", Refused::busy, house -> house.send(3, 5, 1));
        Refused.outside("no walker, no move", Refused::busy, house -> house.send(3, 2, 2));
        Refused.outside("no walker, no move, not so often", Refused::busy, house -> house.send(-1, 2, 61));
        Refused.argument("not so often, no move", Refused::busy, house -> house.send(0, 2, 61));
        Refused.argument("not so often, no move, from elsewhere", Refused::busy, house -> house.send(2, 2, 61));
        Refused.state("no move, from elsewhere", Refused::busy, house -> house.send(2, 2, 2));
    }

    private static void statistic() {
        Refused.outside("no family, no statistic", Refused::busy, house -> house.statistic(3, 4, 0));
        Refused.outside("no family, no statistic", Refused::busy, house -> house.statistic(-1, -1, 0));
        Refused.outside("no rank, no statistic", Refused::busy, house -> house.statistic(0, 4, 5));
        Refused.outside("no rank, no statistic", Refused::busy, house -> house.statistic(2, -1, -1));
    }

    private static void spread() {
        Refused.outside("no family, no statistic", Refused::busy, house -> house.spread(3, 4, 0));
        Refused.outside("no family, no statistic", Refused::busy, house -> house.spread(-1, -1, -1));
    }

    private static void signs() {
        Refused.outside("no family, no statistic", Refused::busy, house -> house.signs(3, 4));
        Refused.outside("no family, no statistic", Refused::busy, house -> house.signs(-1, -1));
    }

    private static void alike() {
        Refused.outside("no one, no which", Refused::busy, house -> house.alike(3, 4, 0, 0));
        Refused.outside("no one, no that", Refused::busy, house -> house.alike(-1, 0, 0, 4));
        Refused.outside("no other, no which", Refused::busy, house -> house.alike(0, 4, 3, 0));
        Refused.outside("no other, no that", Refused::busy, house -> house.alike(0, 0, -1, -1));
        Refused.outside("none of all", Refused::busy, house -> house.alike(3, 4, 3, 4));
    }

    private static void contains() {
        Refused.outside("no rank, no pattern", Refused::busy, house -> house.contains(6, 11));
        Refused.outside("no rank, no pattern", Refused::busy, house -> house.contains(-1, 0));
    }

    private static void ofMap() {
        Refused.outside("no map, no what", Refused::busy, house -> house.ofMap(5, 8));
        Refused.outside("no map, no what", Refused::busy, house -> house.ofMap(-1, -1));
    }

    private static void against() {
        Refused.outside("no map, no statistic", Refused::busy, house -> house.against(5, 4, 0));
        Refused.outside("no map, no other one", Refused::busy, house -> house.against(-1, 0, -1));
    }

    private static void cancels() {
        Refused.outside("no map, no statistic", Refused::busy, house -> house.cancels(5, 4));
        Refused.outside("no map, no statistic", Refused::busy, house -> house.cancels(-1, -1));
    }

    private static void ofWalker() {
        Refused.outside("no walker, no what", Refused::busy, house -> house.ofWalker(3, 5));
        Refused.outside("no walker, no what", Refused::busy, house -> house.ofWalker(-1, -1));
    }

    private static void ofClaim() {
        Refused.outside("no claim, no what", Refused::busy, house -> house.ofClaim(3, 5));
        Refused.outside("no claim, no what", Refused::busy, house -> house.ofClaim(-1, -1));
    }

    private static void mean() {
        Refused.outside("no family, no statistic", Refused::busy, house -> house.mean(3, 4));
        Refused.outside("no family, no statistic", Refused::busy, house -> house.mean(-1, -1));
    }
}
