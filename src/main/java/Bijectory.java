/** A house of perfect matches: paths, trees and orders that are turned into each other, one by one. */
public final class Bijectory {
    private static final int NONE = -1;

    private static final int FIRST_SIZE = 3;
    private static final int MOST_SIZE = 6;
    private static final int MOST_MAPS = 8;
    private static final int MOST_STEPS = 6;
    private static final int MOST_WALKERS = 4;
    private static final int MOST_CLAIMS = 8;
    private static final int MOST_OFTEN = 60;
    private static final int MOST_TIMES = 6;
    private static final int SMALLEST_PATTERN = 2;
    private static final int GREATEST_PATTERN = 4;
    private static final int MAP_FACTS = 8;
    private static final int WALKER_FACTS = 5;
    private static final int CLAIM_FACTS = 5;
    private static final int HOUSE_FACTS = 7;
    private static final long DIGEST_START = 9503L;
    private static final long DIGEST_FACTOR = 31L;

    private static final int PATHS = 0;
    private static final int TREES = 1;
    private static final int ORDERS = 2;
    private static final int FAMILIES = 3;
    private static final int STATISTICS = 4;
    /** No statistic is above the AREA of the highest PATH of the greatest SIZE. */
    private static final int MOST_VALUE = 36;

    private static final int GROW = 0;
    private static final int GRAFT = 1;
    private static final int READ = 2;
    private static final int MIRROR = 3;
    private static final int BACKWARD = 4;
    private static final int ROLL = 5;
    private static final int LABEL = 6;
    private static final int SHAPE = 7;
    private static final int INVERT = 8;
    private static final int TURN = 9;
    private static final int SORT = 10;
    private static final int STEPS = 11;
    /** FAMILIES by STEP. */
    private static final int[] STEP_FROM = {0, 0, 1, 1, 0, 0, 1, 2, 2, 2, 2};
    private static final int[] STEP_TO = {1, 1, 0, 1, 0, 0, 2, 1, 2, 2, 2};

    /** By SIZE; there are as many TREES as PATHS. */
    private static final int[] PATH_COUNTS = {1, 1, 2, 5, 14, 42, 132};
    private static final int[] ORDER_COUNTS = {1, 1, 2, 6, 24, 120, 720};
    /** A power of two that is more than half of all ORDERS of the greatest SIZE. */
    private static final int FIRST_LEAP = 512;
    private static final int[] TENS = {1, 10, 100, 1000, 10000, 100000, 1000000};

    private final Realm[] realms;
    private final Survey survey;
    private final Chart[] charts;
    private final Walker[] walkers;
    private final Claim[] claims;
    private Realm realm;
    private int chartCount;
    private int walkerCount;
    private int claimCount;
    private int tripsEver;
    private int trialsEver;

    /** Promise 1: a house without MAPS. */
    public Bijectory() {
        realms = new Realm[MOST_SIZE + 1];
        survey = new Survey();
        charts = new Chart[MOST_MAPS];
        walkers = new Walker[MOST_WALKERS];
        claims = new Claim[MOST_CLAIMS];
        realm = Realm.of(FIRST_SIZE);
        if (FIRST_SIZE < realms.length) {
            realms[FIRST_SIZE] = realm;
        }
    }

    // ---- what is told

    /** Promise 2: tells the SIZE. */
    public int size(int size) throws IllegalArgumentException {
        if (size < 1 || size > MOST_SIZE || size >= realms.length) {
            throw new IllegalArgumentException("size is not 1 to 6");
        }
        // What holds of a SIZE is found once and kept, as it is dear.
        Realm told = realms[size];
        if (told == null) {
            told = Realm.of(size);
            realms[size] = told;
        }
        realm = told;
        int gone = walkerCount;
        walkerCount = 0;
        return gone;
    }

    /** Promise 3: tells a MAP of one STEP. */
    public int map(int step) throws IllegalArgumentException, IllegalStateException {
        needStep(step);
        if (chartCount >= MOST_MAPS || chartCount >= charts.length) {
            throw new IllegalStateException("there are 8 MAPS");
        }
        charts[chartCount] = new Chart(step);
        chartCount++;
        return chartCount - 1;
    }

    /** Promise 4: puts a STEP behind those of a MAP. */
    public int then(int map, int step)
            throws IndexOutOfBoundsException, IllegalArgumentException, IllegalStateException {
        Chart chart = chartAt(map);
        needStep(step);
        if (chart.length >= MOST_STEPS) {
            throw new IllegalStateException("the MAP has 6 STEPS");
        }
        if (chart.claimed) {
            throw new IllegalStateException("the MAP is in a CLAIM");
        }
        if (Rows.at(STEP_FROM, step) != chart.to) {
            throw new IllegalStateException("the STEP does not go from where the MAP goes to");
        }
        chart.append(step);
        return chart.length;
    }

    /** Promise 5: sets a WALKER. */
    public int walker(int family, int code)
            throws IndexOutOfBoundsException, IllegalArgumentException, IllegalStateException {
        needFamily(family);
        int home = realm.rankOf(family, code);
        if (home == NONE) {
            throw new IllegalArgumentException("no such CODE");
        }
        if (walkerCount >= MOST_WALKERS || walkerCount >= walkers.length) {
            throw new IllegalStateException("there are 4 WALKERS");
        }
        walkers[walkerCount] = new Walker(family, home);
        walkerCount++;
        return walkerCount - 1;
    }

    /** Promise 6: makes a CLAIM, and tries it. */
    public int claim(int map, int which, int other)
            throws IndexOutOfBoundsException, IllegalArgumentException, IllegalStateException {
        Chart chart = chartAt(map);
        needStatistic(which);
        needStatistic(other);
        if (claimCount >= MOST_CLAIMS || claimCount >= claims.length) {
            throw new IllegalStateException("there are 8 CLAIMS");
        }
        Claim made = new Claim(map, which, other);
        claims[claimCount] = made;
        claimCount++;
        chart.claimed = true;
        tryClaim(made, chart);
        return claimCount - 1;
    }

    // ---- what is done

    /** Promise 7: SENDS a WALKER. */
    public int send(int walker, int map, int often)
            throws IndexOutOfBoundsException, IllegalArgumentException, IllegalStateException {
        Walker sent = walkerAt(walker);
        Chart chart = chartAt(map);
        if (often < 1 || often > MOST_OFTEN) {
            throw new IllegalArgumentException("often is not 1 to 60");
        }
        if (chart.from != sent.family) {
            throw new IllegalStateException("the MAP is not FROM the WALKER's FAMILY");
        }
        if (!chart.isMove() && often > 1) {
            throw new IllegalStateException("the MAP is no MOVE");
        }
        for (int trip = 0; trip < often; trip++) {
            sent.go(chart.to, realm.through(chart, sent.place));
            tripsEver++;
        }
        return realm.codeOf(sent.family, sent.place);
    }

    /** Promise 8: tries a CLAIM for the SIZE. */
    public boolean trial(int claim) throws IndexOutOfBoundsException {
        Claim tried = claimAt(claim);
        return tryClaim(tried, chartAt(tried.map));
    }

    // ---- what one asks of objects

    /** Promise 9: how many OBJECTS of the SIZE a FAMILY has. */
    public int objects(int family) throws IndexOutOfBoundsException {
        needFamily(family);
        return realm.count(family);
    }

    /** Promise 10: the CODE of a RANK. */
    public int unrank(int family, int rank) throws IndexOutOfBoundsException {
        needRank(family, rank);
        return realm.codeOf(family, rank);
    }

    /** Promise 11: the RANK of a CODE. */
    public int rank(int family, int code) throws IndexOutOfBoundsException {
        needFamily(family);
        return realm.rankOf(family, code);
    }

    /** Promise 12: a statistic of an OBJECT. */
    public int statistic(int family, int which, int rank)
            throws IndexOutOfBoundsException, IllegalArgumentException {
        needRank(family, rank);
        needStatistic(which);
        return realm.valueOf(family, which, rank);
    }

    /** Promise 13: how many OBJECTS have a statistic of that value. */
    public int spread(int family, int which, int value)
            throws IndexOutOfBoundsException, IllegalArgumentException {
        needFamily(family);
        needStatistic(which);
        return realm.countOf(family, which, value);
    }

    /** Promise 14: the sum of SIGNS of all OBJECTS. */
    public int signs(int family, int which) throws IndexOutOfBoundsException, IllegalArgumentException {
        needFamily(family);
        needStatistic(which);
        int sum = 0;
        for (int value = 0; value <= MOST_VALUE; value++) {
            sum += signOf(value) * realm.countOf(family, which, value);
        }
        return sum;
    }

    /** Promise 15: whether two statistics are spread alike. */
    public boolean alike(int one, int which, int other, int that)
            throws IndexOutOfBoundsException, IllegalArgumentException {
        needFamily(one);
        needFamily(other);
        needStatistic(which);
        needStatistic(that);
        for (int value = 0; value <= MOST_VALUE; value++) {
            if (realm.countOf(one, which, value) != realm.countOf(other, that, value)) {
                return false;
            }
        }
        return true;
    }

    /** Promise 16: in how many sets of places an ORDER contains a pattern. */
    public int contains(int rank, int pattern) throws IndexOutOfBoundsException, IllegalArgumentException {
        needRank(ORDERS, rank);
        int length = patternLength(pattern);
        if (length == NONE) {
            throw new IllegalArgumentException("pattern is no order of 1 to 2, 3 or 4");
        }
        return Orders.timesContained(realm.codeOf(ORDERS, rank), realm.size, pattern, length);
    }

    /** Promise 17: how many ORDERS are in order behind so many times SORT at most. */
    public int sorted(int times) throws IllegalArgumentException {
        if (times < 0 || times > MOST_TIMES) {
            throw new IllegalArgumentException("times is not 0 to 6");
        }
        int found = 0;
        for (int start = 0; start < realm.count(ORDERS); start++) {
            if (realm.isInOrderBehind(start, times)) {
                found++;
            }
        }
        return found;
    }

    // ---- what one asks of maps

    /** Promise 18: what a MAP is. */
    public int ofMap(int map, int what) throws IndexOutOfBoundsException, IllegalArgumentException {
        Chart chart = chartAt(map);
        if (what < 0 || what >= MAP_FACTS) {
            throw new IllegalArgumentException("what is not 0 to 7");
        }
        survey.take(chart, realm);
        switch (what) {
            case 0:
                return chart.from;
            case 1:
                return chart.to;
            case 2:
                return chart.length;
            case 3:
                return chart.distinct == realm.count(chart.from) ? 1 : 0;
            case 4:
                return chart.distinct == realm.count(chart.to) ? 1 : 0;
            case 5:
                return chart.distinct;
            case 6:
                return chart.unmoved;
            default:
                return chart.claimed ? 1 : 0;
        }
    }

    /** Promise 19: the RANK of an IMAGE. */
    public int image(int map, int rank) throws IndexOutOfBoundsException {
        Chart chart = chartAt(map);
        needRank(chart.from, rank);
        return realm.through(chart, rank);
    }

    /** Promise 20: the smallest RANK with that IMAGE. */
    public int source(int map, int rank) throws IndexOutOfBoundsException {
        Chart chart = chartAt(map);
        needRank(chart.to, rank);
        for (int start = 0; start < realm.count(chart.from); start++) {
            if (realm.through(chart, start) == rank) {
                return start;
            }
        }
        return NONE;
    }

    /** Promise 21: how many rounds a PERFECT MOVE has. */
    public int rounds(int map) throws IndexOutOfBoundsException {
        Chart chart = chartAt(map);
        survey.take(chart, realm);
        return chart.rounds;
    }

    /** Promise 22: behind how many times a PERFECT MOVE has all where it was. */
    public long period(int map) throws IndexOutOfBoundsException {
        Chart chart = chartAt(map);
        survey.take(chart, realm);
        return chart.period;
    }

    /** Promise 23: the smallest RANK by which a MAP does not KEEP two statistics. */
    public int against(int map, int which, int other)
            throws IndexOutOfBoundsException, IllegalArgumentException {
        Chart chart = chartAt(map);
        needStatistic(which);
        needStatistic(other);
        return firstAgainst(chart, which, other);
    }

    /** Promise 24: whether a MAP CANCELS by a statistic. */
    public boolean cancels(int map, int which) throws IndexOutOfBoundsException, IllegalArgumentException {
        Chart chart = chartAt(map);
        needStatistic(which);
        if (!chart.isMove()) {
            return false;
        }
        for (int start = 0; start < realm.count(chart.from); start++) {
            if (!isPairedOff(chart, which, start)) {
                return false;
            }
        }
        return true;
    }

    /** Promise 25: what a WALKER is. */
    public int ofWalker(int walker, int what) throws IndexOutOfBoundsException, IllegalArgumentException {
        Walker asked = walkerAt(walker);
        if (what < 0 || what >= WALKER_FACTS) {
            throw new IllegalArgumentException("what is not 0 to 4");
        }
        switch (what) {
            case 0:
                return asked.family;
            case 1:
                return realm.codeOf(asked.family, asked.place);
            case 2:
                return realm.codeOf(asked.homeFamily, asked.home);
            case 3:
                return asked.trips;
            default:
                return asked.backs;
        }
    }

    /** Promise 26: what a CLAIM is. */
    public int ofClaim(int claim, int what) throws IndexOutOfBoundsException, IllegalArgumentException {
        Claim asked = claimAt(claim);
        if (what < 0 || what >= CLAIM_FACTS) {
            throw new IllegalArgumentException("what is not 0 to 4");
        }
        switch (what) {
            case 0:
                return asked.map;
            case 1:
                return asked.which;
            case 2:
                return asked.other;
            case 3:
                return asked.tried;
            default:
                return asked.refuted;
        }
    }

    /** Promise 27: how many there are in the house. */
    public int many(int what) throws IllegalArgumentException {
        if (what < 0 || what >= HOUSE_FACTS) {
            throw new IllegalArgumentException("what is not 0 to 6");
        }
        switch (what) {
            case 0:
                return realm.size;
            case 1:
                return chartCount;
            case 2:
                return walkerCount;
            case 3:
                return claimCount;
            case 4:
                return refutedClaims();
            case 5:
                return tripsEver;
            default:
                return trialsEver;
        }
    }

    /** Promise 28: the mean of a statistic. */
    public double mean(int family, int which) throws IndexOutOfBoundsException, IllegalArgumentException {
        needFamily(family);
        needStatistic(which);
        int sum = 0;
        for (int value = 0; value <= MOST_VALUE; value++) {
            sum += value * realm.countOf(family, which, value);
        }
        int count = realm.count(family);
        return count > 0 ? (double) sum / (double) count : 0.0;
    }

    /** Promise 29: a checksum of all that can be asked. */
    public long digest() {
        long sum = digestOfObjects(DIGEST_START);
        for (int map = 0; map < chartCount; map++) {
            sum = digestOfMap(sum, map);
        }
        for (int walker = 0; walker < walkerCount; walker++) {
            for (int what = 0; what < WALKER_FACTS; what++) {
                sum = sum * DIGEST_FACTOR + ofWalker(walker, what);
            }
        }
        for (int claim = 0; claim < claimCount; claim++) {
            for (int what = 0; what < CLAIM_FACTS; what++) {
                sum = sum * DIGEST_FACTOR + ofClaim(claim, what);
            }
        }
        return sum * DIGEST_FACTOR + sorted(1);
    }

    private long digestOfObjects(long start) {
        long sum = start;
        for (int what = 0; what < HOUSE_FACTS; what++) {
            sum = sum * DIGEST_FACTOR + many(what);
        }
        for (int family = 0; family < FAMILIES; family++) {
            sum = sum * DIGEST_FACTOR + objects(family);
            for (int which = 0; which < STATISTICS; which++) {
                sum = sum * DIGEST_FACTOR + signs(family, which);
            }
        }
        return sum;
    }

    private long digestOfMap(long start, int map) {
        long sum = start;
        for (int what = 0; what < MAP_FACTS; what++) {
            sum = sum * DIGEST_FACTOR + ofMap(map, what);
        }
        sum = sum * DIGEST_FACTOR + image(map, 0);
        sum = sum * DIGEST_FACTOR + rounds(map);
        sum = sum * DIGEST_FACTOR + period(map);
        return sum * DIGEST_FACTOR + against(map, 0, 0);
    }

    // ---- what the calls need

    private static void needStep(int step) {
        if (step < 0 || step >= STEPS) {
            throw new IllegalArgumentException("step is not 0 to 10");
        }
    }

    private static void needFamily(int family) {
        if (family < 0 || family >= FAMILIES) {
            throw new IndexOutOfBoundsException("family is not 0 to 2");
        }
    }

    private static void needStatistic(int which) {
        if (which < 0 || which >= STATISTICS) {
            throw new IllegalArgumentException("a statistic is not 0 to 3");
        }
    }

    private void needRank(int family, int rank) {
        needFamily(family);
        if (rank < 0 || rank >= realm.count(family)) {
            throw new IndexOutOfBoundsException("there is no such RANK");
        }
    }

    private Chart chartAt(int map) {
        Chart chart = map >= 0 && map < chartCount && map < charts.length ? charts[map] : null;
        if (chart == null) {
            throw new IndexOutOfBoundsException("there is no such MAP");
        }
        return chart;
    }

    private Walker walkerAt(int number) {
        Walker found = number >= 0 && number < walkerCount && number < walkers.length ? walkers[number] : null;
        if (found == null) {
            throw new IndexOutOfBoundsException("there is no such WALKER");
        }
        return found;
    }

    private Claim claimAt(int number) {
        Claim found = number >= 0 && number < claimCount && number < claims.length ? claims[number] : null;
        if (found == null) {
            throw new IndexOutOfBoundsException("there is no such CLAIM");
        }
        return found;
    }

    private static int signOf(int value) {
        return (value & 1) == 0 ? 1 : -1;
    }

    private static int patternLength(int pattern) {
        for (int length = SMALLEST_PATTERN; length <= GREATEST_PATTERN; length++) {
            if (Orders.isOrder(pattern, length)) {
                return length;
            }
        }
        return NONE;
    }

    private boolean tryClaim(Claim claim, Chart chart) {
        boolean keeps = firstAgainst(chart, claim.which, claim.other) == NONE;
        claim.note(realm.size, keeps);
        trialsEver++;
        return keeps;
    }

    private int firstAgainst(Chart chart, int which, int other) {
        for (int start = 0; start < realm.count(chart.from); start++) {
            int end = realm.through(chart, start);
            if (realm.valueOf(chart.from, which, start) != realm.valueOf(chart.to, other, end)) {
                return start;
            }
        }
        return NONE;
    }

    /** Where all OBJECTS are their IMAGES' IMAGES, the MOVE is PERFECT too. */
    private boolean isPairedOff(Chart move, int which, int start) {
        int end = realm.through(move, start);
        if (end == start) {
            return true;
        }
        int family = move.from;
        return realm.through(move, end) == start
                && signOf(realm.valueOf(family, which, start)) != signOf(realm.valueOf(family, which, end));
    }

    private int refutedClaims() {
        int found = 0;
        for (int number = 0; number < claimCount; number++) {
            if (claimAt(number).refuted != 0) {
                found++;
            }
        }
        return found;
    }

    /** Rows of numbers that look at each index before it is used: what is not there reads as 0. */
    private static final class Rows {
        static int at(int[] row, int index) {
            return row != null && index >= 0 && index < row.length ? row[index] : 0;
        }

        static int at(int[][] table, int line, int index) {
            int[] row = table != null && line >= 0 && line < table.length ? table[line] : null;
            return row != null && index >= 0 && index < row.length ? row[index] : 0;
        }

        static void put(int[] row, int index, int value) {
            if (row != null && index >= 0 && index < row.length) {
                row[index] = value;
            }
        }

        static void put(int[][] table, int line, int index, int value) {
            int[] row = table != null && line >= 0 && line < table.length ? table[line] : null;
            if (row != null && index >= 0 && index < row.length) {
                row[index] = value;
            }
        }
    }

    /** PATHS of so many pairs of u and d, as their CODES; a place is counted from the last step on, from 0. */
    private static final class Paths {
        static boolean isPath(int code, int pairs) {
            int height = 0;
            for (int place = 2 * pairs - 1; place >= 0; place--) {
                height += rise(code, place);
                if (height < 0) {
                    return false;
                }
            }
            return height == 0;
        }

        static boolean isUp(int code, int place) {
            return (code >> place & 1) == 1;
        }

        static int rise(int code, int place) {
            return 2 * (code >> place & 1) - 1;
        }

        /** So many steps, the last of them at the place. */
        static int part(int code, int place, int steps) {
            return code >> place & (1 << steps) - 1;
        }

        /** Of u A d B, where d is the first one back on the ground: the pairs of A. */
        static int pairsOfFirst(int code, int pairs) {
            int height = 0;
            for (int place = 2 * pairs - 1; place >= 0; place--) {
                height += rise(code, place);
                if (height == 0) {
                    return pairs - 1 - place / 2;
                }
            }
            return 0;
        }

        /** Of B u A d, where u is the last one that leaves the ground: the pairs of A. */
        static int pairsOfLast(int code, int pairs) {
            int height = 0;
            for (int place = 0; place < 2 * pairs; place++) {
                height -= rise(code, place);
                if (height == 0) {
                    return place / 2;
                }
            }
            return 0;
        }

        private static int graft(int code, int pairs) {
            if (pairs < 1 || pairs > MOST_SIZE) {
                return 0;
            }
            int inner = pairsOfLast(code, pairs);
            int ahead = pairs - 1 - inner;
            int left = graft(part(code, 2 * inner + 2, 2 * ahead), ahead);
            int right = graft(part(code, 1, 2 * inner), inner);
            return Trees.node(left, ahead, right, inner);
        }

        static int backward(int code, int pairs) {
            int back = 0;
            for (int place = 0; place < 2 * pairs; place++) {
                back = back << 1 | (isUp(code, place) ? 0 : 1);
            }
            return back;
        }

        static int roll(int code, int pairs) {
            int inner = pairsOfFirst(code, pairs);
            int behind = pairs - 1 - inner;
            int first = part(code, 2 * behind + 1, 2 * inner);
            int second = part(code, 0, 2 * behind);
            return first << 2 * behind + 2 | 1 << 2 * behind + 1 | second << 1;
        }

        static int valueOf(int which, int code, int pairs) {
            switch (which) {
                case 0:
                    return peaks(code, pairs);
                case 1:
                    return returns(code, pairs);
                case 2:
                    return greatestHeight(code, pairs);
                default:
                    return area(code, pairs);
            }
        }

        static int peaks(int code, int pairs) {
            int found = 0;
            for (int place = 2 * pairs - 1; place >= 1; place--) {
                if (isUp(code, place) && !isUp(code, place - 1)) {
                    found++;
                }
            }
            return found;
        }

        static int returns(int code, int pairs) {
            int found = 0;
            int height = 0;
            for (int place = 2 * pairs - 1; place >= 0; place--) {
                height += rise(code, place);
                if (height == 0) {
                    found++;
                }
            }
            return found;
        }

        static int greatestHeight(int code, int pairs) {
            int greatest = 0;
            int height = 0;
            for (int place = 2 * pairs - 1; place >= 0; place--) {
                height += rise(code, place);
                greatest = Math.max(greatest, height);
            }
            return greatest;
        }

        static int area(int code, int pairs) {
            int sum = 0;
            int height = 0;
            for (int place = 2 * pairs - 1; place >= 0; place--) {
                height += rise(code, place);
                sum += height;
            }
            return sum;
        }
    }

    /** TREES of so many nodes, as their CODES: u, the left subtree, d, the right subtree. */
    private static final class Trees {
        static int node(int left, int leftNodes, int right, int rightNodes) {
            return ((1 << 2 * leftNodes | left) << 1) << 2 * rightNodes | right;
        }

        static int leftOf(int code, int nodes, int leftNodes) {
            return Paths.part(code, 2 * (nodes - leftNodes) - 1, 2 * leftNodes);
        }

        static int rightOf(int code, int rightNodes) {
            return Paths.part(code, 0, 2 * rightNodes);
        }

        private static int mirror(int code, int nodes) {
            if (nodes < 1 || nodes > MOST_SIZE) {
                return 0;
            }
            int leftNodes = Paths.pairsOfFirst(code, nodes);
            int rightNodes = nodes - 1 - leftNodes;
            int left = mirror(leftOf(code, nodes, leftNodes), leftNodes);
            int right = mirror(rightOf(code, rightNodes), rightNodes);
            return node(right, rightNodes, left, leftNodes);
        }

        /** The digits of LABEL, with so much added to each number. */
        private static int label(int code, int nodes, int added) {
            if (nodes < 1 || nodes > MOST_SIZE) {
                return 0;
            }
            int leftNodes = Paths.pairsOfFirst(code, nodes);
            int rightNodes = nodes - 1 - leftNodes;
            int left = label(leftOf(code, nodes, leftNodes), leftNodes, added);
            int right = label(rightOf(code, rightNodes), rightNodes, added + leftNodes);
            return (left * 10 + nodes + added) * Rows.at(TENS, rightNodes) + right;
        }

        private static int valueOf(int which, int code, int nodes) {
            if (nodes < 1 || nodes > MOST_SIZE) {
                return 0;
            }
            int leftNodes = Paths.pairsOfFirst(code, nodes);
            int rightNodes = nodes - 1 - leftNodes;
            int left = valueOf(which, leftOf(code, nodes, leftNodes), leftNodes);
            int right = valueOf(which, rightOf(code, rightNodes), rightNodes);
            switch (which) {
                case 0:
                    return nodes == 1 ? 1 : left + right;
                case 1:
                    return 1 + left;
                case 2:
                    return 1 + Math.max(left, right);
                default:
                    return left + right + (rightNodes > 0 ? 1 : 0);
            }
        }
    }

    /** ORDERS of so many numbers, as their CODES; a place is counted from the left, from 1. */
    private static final class Orders {
        static boolean isOrder(int code, int length) {
            int rest = code;
            int met = 0;
            for (int place = length; place >= 1; place--) {
                int number = rest % 10;
                if (number < 1 || number > length || (met >> number & 1) == 1) {
                    return false;
                }
                met |= 1 << number;
                rest /= 10;
            }
            return rest == 0;
        }

        static int at(int code, int length, int place) {
            int rest = code;
            for (int behind = length; behind > place; behind--) {
                rest /= 10;
            }
            return rest % 10;
        }

        /** The ORDERS by CODES are those by the first number, then by the second one, and so on. */
        static int ofRank(int rank, int length) {
            int code = 0;
            int taken = 0;
            int rest = rank;
            for (int behind = length - 1; behind >= 0; behind--) {
                int block = Rows.at(ORDER_COUNTS, behind);
                int number = block > 0 ? freeNumber(taken, rest / block) : 0;
                rest = block > 0 ? rest % block : 0;
                taken |= 1 << number;
                code = code * 10 + number;
            }
            return code;
        }

        /** The number that is not taken, and has so many of these below it. */
        static int freeNumber(int taken, int below) {
            int left = below;
            for (int number = 1; number <= MOST_SIZE; number++) {
                boolean free = (taken >> number & 1) == 0;
                if (free && left == 0) {
                    return number;
                }
                left -= free ? 1 : 0;
            }
            return 0;
        }

        /** SHAPE of the numbers from the first place to the last one. */
        private static int shape(int code, int length, int first, int last) {
            if (first < 1 || last > length || first > last || length > MOST_SIZE) {
                return 0;
            }
            int top = first;
            for (int place = first + 1; place <= last; place++) {
                if (at(code, length, place) > at(code, length, top)) {
                    top = place;
                }
            }
            int left = shape(code, length, first, top - 1);
            int right = shape(code, length, top + 1, last);
            return Trees.node(left, top - first, right, last - top);
        }

        static int invert(int code, int length) {
            int inverse = 0;
            for (int place = 1; place <= length; place++) {
                inverse += place * Rows.at(TENS, length - at(code, length, place));
            }
            return inverse;
        }

        static int turn(int code, int length) {
            int turned = 0;
            int rest = code;
            for (int place = length; place >= 1; place--) {
                turned = turned * 10 + rest % 10;
                rest /= 10;
            }
            return turned;
        }

        /** The STACK is a row of digits too, the last one on top. */
        static int sort(int code, int length) {
            int out = 0;
            int stack = 0;
            for (int place = 1; place <= length; place++) {
                int number = at(code, length, place);
                while (stack > 0 && stack % 10 < number) {
                    out = out * 10 + stack % 10;
                    stack /= 10;
                }
                stack = stack * 10 + number;
            }
            while (stack > 0) {
                out = out * 10 + stack % 10;
                stack /= 10;
            }
            return out;
        }

        static int valueOf(int which, int code, int length) {
            switch (which) {
                case 0:
                    return drops(code, length);
                case 1:
                    return inversions(code, length);
                case 2:
                    return records(code, length);
                default:
                    return unmoved(code, length);
            }
        }

        static int drops(int code, int length) {
            int found = 0;
            for (int place = 2; place <= length; place++) {
                if (at(code, length, place - 1) > at(code, length, place)) {
                    found++;
                }
            }
            return found;
        }

        static int inversions(int code, int length) {
            int found = 0;
            for (int right = 2; right <= length; right++) {
                for (int left = 1; left < right; left++) {
                    if (at(code, length, left) > at(code, length, right)) {
                        found++;
                    }
                }
            }
            return found;
        }

        static int records(int code, int length) {
            int found = 0;
            int greatest = 0;
            for (int place = 1; place <= length; place++) {
                int number = at(code, length, place);
                if (number > greatest) {
                    greatest = number;
                    found++;
                }
            }
            return found;
        }

        static int unmoved(int code, int length) {
            int found = 0;
            for (int place = 1; place <= length; place++) {
                if (at(code, length, place) == place) {
                    found++;
                }
            }
            return found;
        }

        static int timesContained(int code, int length, int pattern, int patternLength) {
            int found = 0;
            for (int places = 0; places < 1 << length; places++) {
                if (Integer.bitCount(places) == patternLength
                        && patternOf(chosen(code, length, places), patternLength) == pattern) {
                    found++;
                }
            }
            return found;
        }

        /** The digits at a set of places: the binary digit k - 1 of the set stands for the place k. */
        static int chosen(int code, int length, int places) {
            int digits = 0;
            for (int place = 1; place <= length; place++) {
                if ((places >> place - 1 & 1) == 1) {
                    digits = digits * 10 + at(code, length, place);
                }
            }
            return digits;
        }

        /** Each digit's size among all of them. */
        static int patternOf(int digits, int length) {
            int pattern = 0;
            for (int place = 1; place <= length; place++) {
                int size = 1;
                for (int other = 1; other <= length; other++) {
                    if (at(digits, length, other) < at(digits, length, place)) {
                        size++;
                    }
                }
                pattern = pattern * 10 + size;
            }
            return pattern;
        }
    }

    /** All that holds of one SIZE, found once: its OBJECTS by RANKS, their IMAGES and statistics. */
    private static final class Realm {
        final int size;
        /** The CODES of the PATHS; those of the TREES are the same ones. */
        private final int[] paths;
        private final int[] orders;
        /** By STEP, then by RANK. */
        private final int[][] images;
        /** By FAMILY and statistic, then by RANK. */
        private final int[][] values;
        /** By FAMILY and statistic, then by value. */
        private final int[][] counts;

        private Realm(int size) {
            int pathCount = Math.max(Rows.at(PATH_COUNTS, size), 0);
            int orderCount = Math.max(Rows.at(ORDER_COUNTS, size), 0);
            this.size = size;
            paths = new int[pathCount];
            orders = new int[orderCount];
            images = new int[STEPS][orderCount];
            values = new int[FAMILIES * STATISTICS][orderCount];
            counts = new int[FAMILIES * STATISTICS][MOST_VALUE + 1];
        }

        static Realm of(int size) {
            Realm realm = new Realm(size);
            realm.listPaths();
            realm.listOrders();
            for (int step = 0; step < STEPS; step++) {
                realm.listImages(step);
            }
            for (int family = 0; family < FAMILIES; family++) {
                for (int which = 0; which < STATISTICS; which++) {
                    realm.listValues(family, which);
                }
            }
            return realm;
        }

        private void listPaths() {
            int found = 0;
            for (int code = 0; code < 1 << 2 * size; code++) {
                if (Paths.isPath(code, size)) {
                    Rows.put(paths, found, code);
                    found++;
                }
            }
        }

        private void listOrders() {
            for (int rank = 0; rank < orders.length; rank++) {
                Rows.put(orders, rank, Orders.ofRank(rank, size));
            }
        }

        private void listImages(int step) {
            int from = Rows.at(STEP_FROM, step);
            int to = Rows.at(STEP_TO, step);
            for (int rank = 0; rank < count(from); rank++) {
                Rows.put(images, step, rank, rankOf(to, imageCode(step, codeOf(from, rank), size)));
            }
        }

        private void listValues(int family, int which) {
            int line = family * STATISTICS + which;
            for (int rank = 0; rank < count(family); rank++) {
                int value = valueByCode(family, which, codeOf(family, rank), size);
                Rows.put(values, line, rank, value);
                Rows.put(counts, line, value, Rows.at(counts, line, value) + 1);
            }
        }

        private static int imageCode(int step, int code, int size) {
            switch (step) {
                case GRAFT:
                    return Paths.graft(code, size);
                case MIRROR:
                    return Trees.mirror(code, size);
                case BACKWARD:
                    return Paths.backward(code, size);
                case ROLL:
                    return Paths.roll(code, size);
                case LABEL:
                    return Trees.label(code, size, 0);
                case SHAPE:
                    return Orders.shape(code, size, 1, size);
                case INVERT:
                    return Orders.invert(code, size);
                case TURN:
                    return Orders.turn(code, size);
                case SORT:
                    return Orders.sort(code, size);
                case GROW:
                case READ:
                default:
                    // A TREE has the CODE of the PATH which GROW makes it of.
                    return code;
            }
        }

        private static int valueByCode(int family, int which, int code, int size) {
            switch (family) {
                case PATHS:
                    return Paths.valueOf(which, code, size);
                case TREES:
                    return Trees.valueOf(which, code, size);
                default:
                    return Orders.valueOf(which, code, size);
            }
        }

        private int[] codes(int family) {
            return family == ORDERS ? orders : paths;
        }

        int count(int family) {
            return codes(family).length;
        }

        int codeOf(int family, int rank) {
            return Rows.at(codes(family), rank);
        }

        int rankOf(int family, int code) {
            int[] codes = codes(family);
            int last = -1;
            for (int leap = FIRST_LEAP; leap > 0; leap /= 2) {
                if (last + leap < codes.length && Rows.at(codes, last + leap) <= code) {
                    last += leap;
                }
            }
            return last >= 0 && Rows.at(codes, last) == code ? last : NONE;
        }

        /** The RANK of the IMAGE by all STEPS. */
        int through(Chart chart, int rank) {
            int place = rank;
            for (int turn = 0; turn < chart.length; turn++) {
                place = Rows.at(images, chart.stepAt(turn), place);
            }
            return place;
        }

        int valueOf(int family, int which, int rank) {
            return Rows.at(values, family * STATISTICS + which, rank);
        }

        int countOf(int family, int which, int value) {
            return Rows.at(counts, family * STATISTICS + which, value);
        }

        /** The ORDER of the RANK 0 is the one that is in order, and SORT leaves it so. */
        boolean isInOrderBehind(int rank, int times) {
            int place = rank;
            for (int turn = 0; turn < times && place != 0; turn++) {
                place = Rows.at(images, SORT, place);
            }
            return place == 0;
        }
    }

    /** A MAP, with what its last survey found. */
    private static final class Chart {
        final int from;
        int to;
        private final int[] steps;
        int length;
        boolean claimed;
        /** The SIZE for which what follows holds; 0 for none. */
        int surveyed;
        int distinct;
        int unmoved;
        int rounds;
        long period;

        Chart(int step) {
            steps = new int[MOST_STEPS];
            if (steps.length > 0) {
                steps[0] = step;
            }
            length = 1;
            from = Rows.at(STEP_FROM, step);
            to = Rows.at(STEP_TO, step);
        }

        void append(int step) {
            Rows.put(steps, length, step);
            length++;
            to = Rows.at(STEP_TO, step);
            surveyed = 0;
        }

        int stepAt(int turn) {
            return turn >= 0 && turn < steps.length ? steps[turn] : 0;
        }

        boolean isMove() {
            return from == to;
        }
    }

    /** Goes through all IMAGES of a MAP at once, with rows that all surveys use again. */
    private static final class Survey {
        private final int[] ends;
        private final boolean[] met;

        Survey() {
            int most = Math.max(Rows.at(ORDER_COUNTS, MOST_SIZE), 0);
            ends = new int[most];
            met = new boolean[most];
        }

        /** Notes in the MAP what holds of it; once for a SIZE, as it is dear. */
        void take(Chart chart, Realm realm) {
            if (chart.surveyed == realm.size) {
                return;
            }
            chart.surveyed = realm.size;
            int starts = realm.count(chart.from);
            for (int start = 0; start < starts; start++) {
                Rows.put(ends, start, realm.through(chart, start));
            }
            chart.distinct = countDistinct(starts);
            chart.unmoved = chart.isMove() ? countUnmoved(starts) : NONE;
            chart.rounds = NONE;
            chart.period = NONE;
            if (chart.isMove() && chart.distinct == starts) {
                followRounds(chart, starts);
            }
        }

        private int countDistinct(int starts) {
            forget();
            int found = 0;
            for (int start = 0; start < starts; start++) {
                if (meet(Rows.at(ends, start))) {
                    found++;
                }
            }
            return found;
        }

        private int countUnmoved(int starts) {
            int found = 0;
            for (int start = 0; start < starts; start++) {
                if (Rows.at(ends, start) == start) {
                    found++;
                }
            }
            return found;
        }

        private void followRounds(Chart chart, int starts) {
            forget();
            chart.rounds = 0;
            chart.period = 1;
            for (int start = 0; start < starts; start++) {
                int length = roundLength(start, starts);
                if (length > 0) {
                    chart.rounds++;
                    chart.period = commonMultiple(chart.period, length);
                }
            }
        }

        /** 0, if the round was met before. */
        private int roundLength(int start, int starts) {
            int length = 0;
            int place = start;
            while (length < starts && meet(place)) {
                length++;
                place = Rows.at(ends, place);
            }
            return length;
        }

        private static long commonMultiple(long one, int other) {
            for (int factor = 1; factor <= other; factor++) {
                if (one * factor % other == 0) {
                    return one * factor;
                }
            }
            return one;
        }

        private void forget() {
            for (int place = 0; place < met.length; place++) {
                met[place] = false;
            }
        }

        /** Whether the place is met for the first time. */
        private boolean meet(int place) {
            if (place < 0 || place >= met.length || met[place]) {
                return false;
            }
            met[place] = true;
            return true;
        }
    }

    private static final class Walker {
        final int homeFamily;
        final int home;
        int family;
        /** The RANK in the FAMILY where it is. */
        int place;
        int trips;
        int backs;

        Walker(int family, int home) {
            this.homeFamily = family;
            this.home = home;
            this.family = family;
            this.place = home;
        }

        void go(int toFamily, int toPlace) {
            family = toFamily;
            place = toPlace;
            trips++;
            if (family == homeFamily && place == home) {
                backs++;
            }
        }
    }

    private static final class Claim {
        final int map;
        final int which;
        final int other;
        /** Sets of SIZES, as sums of 2^n. */
        int tried;
        int refuted;

        Claim(int map, int which, int other) {
            this.map = map;
            this.which = which;
            this.other = other;
        }

        void note(int size, boolean keeps) {
            tried |= 1 << size;
            if (!keeps) {
                refuted |= 1 << size;
            }
        }
    }
}
