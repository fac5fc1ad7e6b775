import java.math.BigInteger;
import java.util.ArrayList;
import java.util.HashMap;
import java.util.HashSet;
import java.util.List;
import java.util.Map;
import java.util.Set;
import java.util.TreeMap;

/**
 * The document once more, told in another way: with texts of u and d, nodes and lists, and nothing kept that can be
 * found again. The runs of RunsTest compare the class with it.
 */
final class Model {
    record Node(Node left, Node right) {
        static int count(Node node) {
            return node == null ? 0 : 1 + count(node.left) + count(node.right);
        }
    }

    static final class Walker {
        int homeFamily;
        Object home;
        int family;
        Object at;
        int trips;
        int backs;
    }

    static final class Claim {
        int map;
        int which;
        int other;
        Set<Integer> tried = new HashSet<>();
        Set<Integer> refuted = new HashSet<>();
    }

    private static final String[] WAYS = {"PT", "PT", "TP", "TT", "PP", "PP", "TO", "OT", "OO", "OO", "OO"};
    private static final Map<Integer, List<Object>> KNOWN = new HashMap<>();
    private static final Map<String, Object> IMAGES = new HashMap<>();

    private int size = 3;
    private final List<List<Integer>> maps = new ArrayList<>();
    private final List<Walker> walkers = new ArrayList<>();
    private final List<Claim> claims = new ArrayList<>();
    private int tripsEver;
    private int trialsEver;

    // ---- objects

    private static void allPaths(String start, int ups, int downs, List<Object> all) {
        if (ups == 0 && downs == 0) {
            all.add(start);
            return;
        }
        // d ahead of u: smaller codes first
        if (downs > ups) {
            allPaths(start + "d", ups, downs - 1, all);
        }
        if (ups > 0) {
            allPaths(start + "u", ups - 1, downs, all);
        }
    }

    private static void allOrders(List<Integer> start, int size, List<Object> all) {
        if (start.size() == size) {
            all.add(start);
            return;
        }
        for (int number = 1; number <= size; number++) {
            if (!start.contains(number)) {
                List<Integer> more = new ArrayList<>(start);
                more.add(number);
                allOrders(more, size, all);
            }
        }
    }

    static List<Object> all(int family, int size) {
        return KNOWN.computeIfAbsent(family * 10 + size, key -> {
            List<Object> all = new ArrayList<>();
            if (family == 2) {
                allOrders(new ArrayList<>(), size, all);
            } else {
                allPaths("", size, size, all);
            }
            if (family == 1) {
                all.replaceAll(path -> grow((String) path));
            }
            return all;
        });
    }

    static int code(int family, Object object) {
        if (family == 2) {
            int code = 0;
            for (Object number : (List<?>) object) {
                code = code * 10 + (Integer) number;
            }
            return code;
        }
        String path = family == 1 ? read((Node) object) : (String) object;
        return Integer.parseInt(path.replace('u', '1').replace('d', '0'), 2);
    }

    // ---- steps

    /** Where the part that begins with u is first back on the ground. */
    private static int firstBack(String path) {
        int height = 0;
        for (int i = 0; i < path.length(); i++) {
            height += path.charAt(i) == 'u' ? 1 : -1;
            if (height == 0) {
                return i;
            }
        }
        throw new AssertionError(path);
    }

    private static int lastLeave(String path) {
        int height = 0;
        int last = -1;
        for (int i = 0; i < path.length(); i++) {
            if (height == 0) {
                last = i;
            }
            height += path.charAt(i) == 'u' ? 1 : -1;
        }
        return last;
    }

    static Node grow(String path) {
        if (path.isEmpty()) {
            return null;
        }
        int back = firstBack(path);
        return new Node(grow(path.substring(1, back)), grow(path.substring(back + 1)));
    }

    static Node graft(String path) {
        if (path.isEmpty()) {
            return null;
        }
        int leave = lastLeave(path);
        return new Node(graft(path.substring(0, leave)), graft(path.substring(leave + 1, path.length() - 1)));
    }

    static String read(Node node) {
        return node == null ? "" : "u" + read(node.left) + "d" + read(node.right);
    }

    static Node mirror(Node node) {
        return node == null ? null : new Node(mirror(node.right), mirror(node.left));
    }

    static String backward(String path) {
        return new StringBuilder(path).reverse().toString().replace('u', 'x').replace('d', 'u').replace('x', 'd');
    }

    static String roll(String path) {
        int back = firstBack(path);
        return path.substring(1, back) + "u" + path.substring(back + 1) + "d";
    }

    static List<Integer> label(Node node) {
        List<Integer> row = new ArrayList<>();
        if (node == null) {
            return row;
        }
        int l = Node.count(node.left);
        int r = Node.count(node.right);
        row.addAll(label(node.left));
        row.add(l + r + 1);
        for (int number : label(node.right)) {
            row.add(number + l);
        }
        return row;
    }

    static Node shape(List<Integer> row) {
        if (row.isEmpty()) {
            return null;
        }
        int top = 0;
        for (int i = 0; i < row.size(); i++) {
            top = row.get(i) > row.get(top) ? i : top;
        }
        return new Node(shape(row.subList(0, top)), shape(row.subList(top + 1, row.size())));
    }

    static List<Integer> invert(List<Integer> row) {
        List<Integer> inverse = new ArrayList<>();
        for (int k = 1; k <= row.size(); k++) {
            inverse.add(row.indexOf(k) + 1);
        }
        return inverse;
    }

    static List<Integer> turn(List<Integer> row) {
        List<Integer> turned = new ArrayList<>();
        for (int number : row) {
            turned.add(0, number);
        }
        return turned;
    }

    static List<Integer> sort(List<Integer> row) {
        List<Integer> out = new ArrayList<>();
        List<Integer> stack = new ArrayList<>();
        for (int number : row) {
            while (!stack.isEmpty() && stack.get(stack.size() - 1) < number) {
                out.add(stack.remove(stack.size() - 1));
            }
            stack.add(number);
        }
        out.addAll(turn(stack));
        return out;
    }

    @SuppressWarnings("unchecked")
    private static Object imageBy(int step, Object object) {
        switch (step) {
            case 0:
                return grow((String) object);
            case 1:
                return graft((String) object);
            case 2:
                return read((Node) object);
            case 3:
                return mirror((Node) object);
            case 4:
                return backward((String) object);
            case 5:
                return roll((String) object);
            case 6:
                return label((Node) object);
            case 7:
                return shape((List<Integer>) object);
            case 8:
                return invert((List<Integer>) object);
            case 9:
                return turn((List<Integer>) object);
            default:
                return sort((List<Integer>) object);
        }
    }

    // ---- statistics

    private static int ofPath(int which, String path) {
        int peaks = 0;
        int returns = 0;
        int top = 0;
        int area = 0;
        int height = 0;
        for (int i = 0; i < path.length(); i++) {
            boolean up = path.charAt(i) == 'u';
            height += up ? 1 : -1;
            peaks += !up && path.charAt(i - 1) == 'u' ? 1 : 0;
            returns += !up && height == 0 ? 1 : 0;
            top = Math.max(top, height);
            area += height;
        }
        return new int[] {peaks, returns, top, area}[which];
    }

    private static int tips(Node node) {
        if (node == null) {
            return 0;
        }
        return node.left == null && node.right == null ? 1 : tips(node.left) + tips(node.right);
    }

    private static int spine(Node node) {
        int found = 0;
        for (Node on = node; on != null; on = on.left) {
            found++;
        }
        return found;
    }

    private static int depth(Node node) {
        return node == null ? 0 : 1 + Math.max(depth(node.left), depth(node.right));
    }

    private static int rights(Node node) {
        return node == null ? 0 : (node.right != null ? 1 : 0) + rights(node.left) + rights(node.right);
    }

    private static int ofOrder(int which, List<?> row) {
        int drops = 0;
        int inversions = 0;
        int records = 0;
        int fixed = 0;
        for (int i = 0; i < row.size(); i++) {
            int number = (Integer) row.get(i);
            boolean record = true;
            for (int j = 0; j < i; j++) {
                int earlier = (Integer) row.get(j);
                record &= earlier < number;
                inversions += earlier > number ? 1 : 0;
                drops += j == i - 1 && earlier > number ? 1 : 0;
            }
            records += record ? 1 : 0;
            fixed += number == i + 1 ? 1 : 0;
        }
        return new int[] {drops, inversions, records, fixed}[which];
    }

    static int value(int family, int which, Object object) {
        if (family == 0) {
            return ofPath(which, (String) object);
        }
        if (family == 2) {
            return ofOrder(which, (List<?>) object);
        }
        Node node = (Node) object;
        return which == 0 ? tips(node) : which == 1 ? spine(node) : which == 2 ? depth(node) : rights(node);
    }

    // ---- maps

    private static int familyOf(char letter) {
        return "PTO".indexOf(letter);
    }

    private int from(int map) {
        return familyOf(WAYS[maps.get(map).get(0)].charAt(0));
    }

    private int to(int map) {
        List<Integer> steps = maps.get(map);
        return familyOf(WAYS[steps.get(steps.size() - 1)].charAt(1));
    }

    private Object imageOf(int map, Object object) {
        Object image = object;
        for (int step : maps.get(map)) {
            Object ahead = image;
            image = IMAGES.computeIfAbsent(step + ":" + ahead, key -> imageBy(step, ahead));
        }
        return image;
    }

    private List<Object> imagesOf(int map) {
        List<Object> images = new ArrayList<>();
        for (Object object : all(from(map), size)) {
            images.add(imageOf(map, object));
        }
        return images;
    }

    private boolean perfectMove(int map) {
        int different = new HashSet<>(imagesOf(map)).size();
        return from(map) == to(map) && different == objects(from(map));
    }

    private static void need(boolean holds, RuntimeException otherwise) {
        if (!holds) {
            throw otherwise;
        }
    }

    private static void inside(boolean holds) {
        need(holds, new IndexOutOfBoundsException());
    }

    private static void argument(boolean holds) {
        need(holds, new IllegalArgumentException());
    }

    private static void state(boolean holds) {
        need(holds, new IllegalStateException());
    }

    private static boolean within(int number, int first, int last) {
        return number >= first && number <= last;
    }

    private static void family(int family) {
        inside(within(family, 0, 2));
    }

    private static void statistics(int... all) {
        for (int which : all) {
            argument(within(which, 0, 3));
        }
    }

    private void needMap(int map) {
        inside(within(map, 0, maps.size() - 1));
    }

    // ---- the face

    int size(int size) {
        argument(within(size, 1, 6));
        int gone = walkers.size();
        walkers.clear();
        this.size = size;
        return gone;
    }

    int map(int step) {
        argument(within(step, 0, 10));
        state(maps.size() < 8);
        maps.add(new ArrayList<>(List.of(step)));
        return maps.size() - 1;
    }

    int then(int map, int step) {
        needMap(map);
        argument(within(step, 0, 10));
        state(maps.get(map).size() < 6);
        state(claims.stream().noneMatch(claim -> claim.map == map));
        state(familyOf(WAYS[step].charAt(0)) == to(map));
        maps.get(map).add(step);
        return maps.get(map).size();
    }

    int walker(int family, int code) {
        family(family);
        int rank = rank(family, code);
        argument(rank != -1);
        state(walkers.size() < 4);
        Walker walker = new Walker();
        walker.family = family;
        walker.homeFamily = family;
        walker.at = all(family, size).get(rank);
        walker.home = walker.at;
        walkers.add(walker);
        return walkers.size() - 1;
    }

    int claim(int map, int which, int other) {
        needMap(map);
        statistics(which, other);
        state(claims.size() < 8);
        Claim claim = new Claim();
        claim.map = map;
        claim.which = which;
        claim.other = other;
        claims.add(claim);
        trial(claims.size() - 1);
        return claims.size() - 1;
    }

    int send(int walker, int map, int often) {
        inside(within(walker, 0, walkers.size() - 1));
        needMap(map);
        argument(within(often, 1, 60));
        Walker sent = walkers.get(walker);
        state(from(map) == sent.family);
        state(from(map) == to(map) || often == 1);
        for (int i = 0; i < often; i++) {
            sent.at = imageOf(map, sent.at);
            sent.family = to(map);
            sent.trips++;
            tripsEver++;
            if (sent.family == sent.homeFamily && sent.at.equals(sent.home)) {
                sent.backs++;
            }
        }
        return code(sent.family, sent.at);
    }

    boolean trial(int claim) {
        inside(within(claim, 0, claims.size() - 1));
        Claim tried = claims.get(claim);
        boolean keeps = against(tried.map, tried.which, tried.other) == -1;
        trialsEver++;
        tried.tried.add(size);
        if (!keeps) {
            tried.refuted.add(size);
        }
        return keeps;
    }

    int objects(int family) {
        family(family);
        return all(family, size).size();
    }

    int unrank(int family, int rank) {
        family(family);
        inside(within(rank, 0, objects(family) - 1));
        return code(family, all(family, size).get(rank));
    }

    int rank(int family, int code) {
        family(family);
        for (int rank = 0; rank < objects(family); rank++) {
            if (code(family, all(family, size).get(rank)) == code) {
                return rank;
            }
        }
        return -1;
    }

    int statistic(int family, int which, int rank) {
        family(family);
        inside(within(rank, 0, objects(family) - 1));
        statistics(which);
        return value(family, which, all(family, size).get(rank));
    }

    int spread(int family, int which, int value) {
        family(family);
        statistics(which);
        int found = 0;
        for (Object object : all(family, size)) {
            found += value(family, which, object) == value ? 1 : 0;
        }
        return found;
    }

    int signs(int family, int which) {
        family(family);
        statistics(which);
        int sum = 0;
        for (Object object : all(family, size)) {
            sum += value(family, which, object) % 2 == 0 ? 1 : -1;
        }
        return sum;
    }

    private Map<Integer, Integer> spreadOf(int family, int which) {
        Map<Integer, Integer> spread = new TreeMap<>();
        for (Object object : all(family, size)) {
            spread.merge(value(family, which, object), 1, Integer::sum);
        }
        return spread;
    }

    boolean alike(int one, int which, int other, int that) {
        family(one);
        family(other);
        statistics(which, that);
        return spreadOf(one, which).equals(spreadOf(other, that));
    }

    private static int containing(List<?> row, int from, List<Integer> chosen, String pattern) {
        if (chosen.size() == pattern.length()) {
            List<Integer> bySize = new ArrayList<>(chosen);
            bySize.sort(null);
            StringBuilder digits = new StringBuilder();
            for (Integer number : chosen) {
                digits.append(bySize.indexOf(number) + 1);
            }
            return digits.toString().equals(pattern) ? 1 : 0;
        }
        int found = 0;
        for (int i = from; i < row.size(); i++) {
            List<Integer> more = new ArrayList<>(chosen);
            more.add((Integer) row.get(i));
            found += containing(row, i + 1, more, pattern);
        }
        return found;
    }

    int contains(int rank, int pattern) {
        inside(within(rank, 0, objects(2) - 1));
        boolean known = false;
        for (int m = 2; m <= 4; m++) {
            for (Object order : all(2, m)) {
                known |= code(2, order) == pattern;
            }
        }
        argument(known);
        return containing((List<?>) all(2, size).get(rank), 0, List.of(), String.valueOf(pattern));
    }

    @SuppressWarnings("unchecked")
    int sorted(int times) {
        argument(within(times, 0, 6));
        int found = 0;
        for (Object order : all(2, size)) {
            boolean met = order.equals(all(2, size).get(0));
            List<Integer> row = (List<Integer>) order;
            for (int i = 0; i < times; i++) {
                row = sort(row);
                met |= row.equals(all(2, size).get(0));
            }
            found += met ? 1 : 0;
        }
        return found;
    }

    int ofMap(int map, int what) {
        needMap(map);
        argument(within(what, 0, 7));
        List<Object> images = imagesOf(map);
        int different = new HashSet<>(images).size();
        switch (what) {
            case 0:
                return from(map);
            case 1:
                return to(map);
            case 2:
                return maps.get(map).size();
            case 3:
                return different == images.size() ? 1 : 0;
            case 4:
                return new HashSet<>(images).containsAll(all(to(map), size)) ? 1 : 0;
            case 5:
                return different;
            case 6:
                return from(map) != to(map) ? -1 : fixed(map, images);
            default:
                return claims.stream().anyMatch(claim -> claim.map == map) ? 1 : 0;
        }
    }

    private int fixed(int map, List<Object> images) {
        int found = 0;
        for (int i = 0; i < images.size(); i++) {
            found += images.get(i).equals(all(from(map), size).get(i)) ? 1 : 0;
        }
        return found;
    }

    int image(int map, int rank) {
        needMap(map);
        inside(within(rank, 0, objects(from(map)) - 1));
        return all(to(map), size).indexOf(imageOf(map, all(from(map), size).get(rank)));
    }

    int source(int map, int rank) {
        needMap(map);
        inside(within(rank, 0, objects(to(map)) - 1));
        return imagesOf(map).indexOf(all(to(map), size).get(rank));
    }

    int rounds(int map) {
        needMap(map);
        if (!perfectMove(map)) {
            return -1;
        }
        Set<Set<Object>> rounds = new HashSet<>();
        for (Object object : all(from(map), size)) {
            Set<Object> round = new HashSet<>();
            for (Object at = object; round.add(at); ) {
                at = imageOf(map, at);
            }
            rounds.add(round);
        }
        return rounds.size();
    }

    long period(int map) {
        needMap(map);
        if (!perfectMove(map)) {
            return -1;
        }
        BigInteger times = BigInteger.ONE;
        for (Object object : all(from(map), size)) {
            long back = 1;
            for (Object at = imageOf(map, object); !at.equals(object); at = imageOf(map, at)) {
                back++;
            }
            BigInteger one = BigInteger.valueOf(back);
            times = times.multiply(one).divide(times.gcd(one));
        }
        return times.longValueExact();
    }

    int against(int map, int which, int other) {
        needMap(map);
        statistics(which, other);
        List<Object> images = imagesOf(map);
        for (int rank = 0; rank < images.size(); rank++) {
            int former = value(from(map), which, all(from(map), size).get(rank));
            if (former != value(to(map), other, images.get(rank))) {
                return rank;
            }
        }
        return -1;
    }

    boolean cancels(int map, int which) {
        needMap(map);
        statistics(which);
        if (!perfectMove(map)) {
            return false;
        }
        for (Object object : all(from(map), size)) {
            Object image = imageOf(map, object);
            boolean other = (value(from(map), which, object) + value(from(map), which, image)) % 2 == 1;
            if (!imageOf(map, image).equals(object) || !image.equals(object) && !other) {
                return false;
            }
        }
        return true;
    }

    int ofWalker(int walker, int what) {
        inside(within(walker, 0, walkers.size() - 1));
        argument(within(what, 0, 4));
        Walker asked = walkers.get(walker);
        int[] all = {asked.family, code(asked.family, asked.at), code(asked.homeFamily, asked.home), asked.trips,
            asked.backs};
        return all[what];
    }

    private static int sum(Set<Integer> sizes) {
        return sizes.stream().mapToInt(n -> (int) Math.pow(2, n)).sum();
    }

    int ofClaim(int claim, int what) {
        inside(within(claim, 0, claims.size() - 1));
        argument(within(what, 0, 4));
        Claim asked = claims.get(claim);
        int[] all = {asked.map, asked.which, asked.other, sum(asked.tried), sum(asked.refuted)};
        return all[what];
    }

    int many(int what) {
        argument(within(what, 0, 6));
        int refuted = (int) claims.stream().filter(claim -> !claim.refuted.isEmpty()).count();
        int[] all = {size, maps.size(), walkers.size(), claims.size(), refuted, tripsEver, trialsEver};
        return all[what];
    }

    double mean(int family, int which) {
        family(family);
        statistics(which);
        long sum = 0;
        for (Object object : all(family, size)) {
            sum += value(family, which, object);
        }
        return (double) sum / objects(family);
    }

    long digest() {
        List<Long> all = new ArrayList<>();
        for (int what = 0; what <= 6; what++) {
            all.add((long) many(what));
        }
        for (int family = 0; family <= 2; family++) {
            all.add((long) objects(family));
            for (int which = 0; which <= 3; which++) {
                all.add((long) signs(family, which));
            }
        }
        for (int map = 0; map < maps.size(); map++) {
            for (int what = 0; what <= 7; what++) {
                all.add((long) ofMap(map, what));
            }
            all.add((long) image(map, 0));
            all.add((long) rounds(map));
            all.add(period(map));
            all.add((long) against(map, 0, 0));
        }
        for (int walker = 0; walker < walkers.size(); walker++) {
            for (int what = 0; what <= 4; what++) {
                all.add((long) ofWalker(walker, what));
            }
        }
        for (int claim = 0; claim < claims.size(); claim++) {
            for (int what = 0; what <= 4; what++) {
                all.add((long) ofClaim(claim, what));
            }
        }
        all.add((long) sorted(1));
        long d = 9503;
        for (long v : all) {
            d = d * 31 + v;
        }
        return d;
    }
}
