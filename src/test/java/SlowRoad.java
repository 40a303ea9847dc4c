import java.math.BigInteger;
import java.util.ArrayDeque;
import java.util.ArrayList;
import java.util.Comparator;
import java.util.Deque;
import java.util.HashMap;
import java.util.List;
import java.util.Map;
import java.util.TreeSet;
import java.util.regex.Matcher;
import java.util.regex.Pattern;
import java.util.stream.Collectors;
import java.util.stream.IntStream;

/** The document over again, as slowly and as literally as may be, to compare SmallestSpeed with. */
final class SlowRoad {
    record Kid(int kind, int height, int cell, int steps, int bed) {
        Kid inCell(int other) {
            return new Kid(kind, height, other, steps, bed);
        }

        Kid withBed(int other) {
            return new Kid(kind, height, cell, steps, other);
        }

        Kid withKind(int other) {
            return new Kid(other, height, cell, steps, bed);
        }

        int cellAt(int t) {
            int free = switch (kind) {
                case 2, 5 -> t % 2 == 0 ? cell : cell + steps;
                default -> cell + steps * t;
            };
            return free > 47 ? 47 : free;
        }

        boolean isOut(int t) {
            return t < bed && !(kind == 5 && t >= 20);
        }

        int high(int t) {
            int held = height + 2 > 9 ? 9 : height + 2;
            return switch (kind) {
                case 1 -> held;
                case 3 -> held / 2 < 1 ? 1 : held / 2;
                case 4 -> height + t / 15 > 9 ? 9 : height + t / 15;
                default -> height;
            };
        }
    }

    record Seen(int cell, int minute, int v) {
    }

    record Near(int distance, int high, int number) {
    }

    /** What an image keeps. */
    private static final class Kept {
        int sight = 10;
        int law;
        List<Kid> kids = new ArrayList<>();
        List<Integer> speeds = new ArrayList<>();
        List<Seen> seen = new ArrayList<>();
        Deque<List<Kid>> before = new ArrayDeque<>();

        Kept copy() {
            Kept k = new Kept();
            k.sight = sight;
            k.law = law;
            k.kids = new ArrayList<>(kids);
            k.speeds = new ArrayList<>(speeds);
            k.seen = new ArrayList<>(seen);
            k.before = new ArrayDeque<>(before);
            return k;
        }
    }

    private Kept now = new Kept();
    private final Kept[] images = new Kept[2];
    private final StringBuilder text = new StringBuilder();
    private long above = 0;
    private long below = 1;
    private final int[] refused = new int[3];

    private int bad(int answer) {
        refused[0]++;
        return answer;
    }

    private int no() {
        refused[1]++;
        return -3;
    }

    private int full() {
        refused[2]++;
        return -4;
    }

    private static boolean in(int n, int least, int most) {
        return least <= n && n <= most;
    }

    int road(int sight, int rule) {
        if (!in(sight, 0, 47) || !in(rule, 0, 2)) {
            return bad(-2);
        }
        int were = now.kids.size();
        now = new Kept();
        now.sight = sight;
        now.law = rule;
        return were;
    }

    int rule(int n) {
        if (!in(n, 0, 2)) {
            return bad(-2);
        }
        int was = now.law;
        now.law = n;
        return was;
    }

    int sight(int n) {
        if (!in(n, 0, 47)) {
            return bad(-2);
        }
        int was = now.sight;
        now.sight = n;
        return was;
    }

    private static boolean isKid(int kind, int height, int cell, int steps, int bed) {
        return in(kind, 0, 5) && in(height, 1, 9) && in(cell, 0, 47) && in(steps, 0, 3) && in(bed, 0, 60);
    }

    int child(int kind, int height, int cell, int steps, int bed) {
        if (!isKid(kind, height, cell, steps, bed)) {
            return bad(-2);
        }
        if (now.kids.size() == 6) {
            return full();
        }
        now.kids.add(new Kid(kind, height, cell, steps, bed));
        now.before.clear();
        return now.kids.size() - 1;
    }

    private void remember() {
        now.before.addLast(new ArrayList<>(now.kids));
        while (now.before.size() > 8) {
            now.before.removeFirst();
        }
    }

    int stand(int child, int cell) {
        if (!in(child, 0, now.kids.size() - 1) || !in(cell, 0, 47)) {
            return bad(-2);
        }
        remember();
        Kid was = now.kids.get(child);
        now.kids.set(child, was.inCell(cell));
        return was.cell();
    }

    int bed(int child, int minute) {
        if (!in(child, 0, now.kids.size() - 1) || !in(minute, 0, 60)) {
            return bad(-2);
        }
        remember();
        Kid was = now.kids.get(child);
        now.kids.set(child, was.withBed(minute));
        return was.bed();
    }

    int undo() {
        if (now.before.isEmpty()) {
            return no();
        }
        now.kids = new ArrayList<>(now.before.removeLast());
        return now.before.size();
    }

    int type(int c) {
        if (!in(c, 0, 127)) {
            return bad(-2);
        }
        if (text.length() == 150) {
            return full();
        }
        text.append((char) c);
        return text.length();
    }

    int clear() {
        int were = text.length();
        text.setLength(0);
        return were;
    }

    private static final int[][] ROAD_BOUNDS = {{0, 47}, {0, 2}};
    private static final int[][] CHILD_BOUNDS = {{0, 5}, {1, 9}, {0, 47}, {0, 3}, {0, 60}};

    int read() {
        List<String> tokens = new ArrayList<>();
        List<Integer> places = new ArrayList<>();
        Matcher m = Pattern.compile("[a-z]+|[0-9]+|;| +|.", Pattern.DOTALL).matcher(text);
        while (m.find()) {
            if (!m.group().isBlank() || m.group().charAt(0) != ' ') {
                tokens.add(m.group());
                places.add(m.start());
            }
        }
        List<List<Integer>> items = new ArrayList<>();
        int at = 0;
        while (at < tokens.size()) {
            boolean first = items.isEmpty();
            if (!tokens.get(at).equals(first ? "road" : "child") || items.size() == 7) {
                return -10 - places.get(at);
            }
            at++;
            List<Integer> numbers = new ArrayList<>();
            for (int[] bounds : first ? ROAD_BOUNDS : CHILD_BOUNDS) {
                if (at == tokens.size()) {
                    return -10 - text.length();
                }
                if (!tokens.get(at).matches("[0-9]{1,2}")
                        || !in(Integer.parseInt(tokens.get(at)), bounds[0], bounds[1])) {
                    return -10 - places.get(at);
                }
                numbers.add(Integer.parseInt(tokens.get(at)));
                at++;
            }
            if (at == tokens.size()) {
                return -10 - text.length();
            }
            if (!tokens.get(at).equals(";")) {
                return -10 - places.get(at);
            }
            at++;
            items.add(numbers);
        }
        if (items.isEmpty()) {
            return -10 - text.length();
        }
        now = new Kept();
        now.sight = items.get(0).get(0);
        now.law = items.get(0).get(1);
        for (List<Integer> n : items.subList(1, items.size())) {
            now.kids.add(new Kid(n.get(0), n.get(1), n.get(2), n.get(3), n.get(4)));
        }
        return items.size();
    }

    int of(int child, int minute, int what) {
        if (!in(child, 0, now.kids.size() - 1) || !in(minute, 0, 59) || !in(what, 0, 5)) {
            return bad(-2);
        }
        Kid kid = now.kids.get(child);
        return switch (what) {
            case 0 -> kid.kind();
            case 1 -> kid.height();
            case 2 -> kid.cellAt(minute);
            case 3 -> kid.isOut(minute) ? kid.high(minute) : 0;
            case 4 -> kid.steps();
            default -> kid.bed();
        };
    }

    private List<Near> nearest(List<Kid> kids, int set, int cell, int t) {
        return IntStream.range(0, kids.size())
                .filter(i -> (set & 1 << i) != 0 && kids.get(i).isOut(t))
                .mapToObj(i -> new Near(Math.abs(kids.get(i).cellAt(t) - cell), kids.get(i).high(t), i))
                .filter(n -> n.distance() <= now.sight)
                .sorted(Comparator.comparingInt(Near::distance).thenComparingInt(Near::high)
                        .thenComparingInt(Near::number))
                .collect(Collectors.toList());
    }

    private int limitOf(List<Kid> kids, int set, int cell, int t) {
        List<Near> near = nearest(kids, set, cell, t);
        if (near.isEmpty()) {
            return 9;
        }
        if (now.law == 1) {
            return near.stream().mapToInt(Near::high).min().getAsInt();
        }
        if (now.law == 2 && near.size() > 1) {
            return (near.get(0).high() + near.get(1).high()) / 2;
        }
        return near.get(0).high();
    }

    private int all() {
        return (1 << now.kids.size()) - 1;
    }

    /** For the making of readings that some sets fit. */
    int limitBySet(int set, int cell, int minute) {
        return limitOf(now.kids, set & all(), cell, minute);
    }

    int limit(int cell, int minute, int what) {
        if (!in(cell, 0, 47) || !in(minute, 0, 59) || !in(what, 0, 1)) {
            return bad(-10);
        }
        if (what == 0) {
            return limitOf(now.kids, all(), cell, minute);
        }
        List<Near> near = nearest(now.kids, all(), cell, minute);
        return near.isEmpty() ? -1 : near.get(0).number();
    }

    private int cellAt(List<Kid> kids, int set, int a, int m) {
        if (m == a) {
            return 0;
        }
        int cell = cellAt(kids, set, a, m - 1);
        return Math.min(47, cell + limitOf(kids, set, cell, m - 1));
    }

    private int end(List<Kid> kids, int set, int a) {
        int cell = 0;
        for (int t = a; t <= 60; t++) {
            if (cell == 47) {
                return t;
            }
            if (t < 60) {
                cell = Math.min(47, cell + limitOf(kids, set, cell, t));
            }
        }
        return 61;
    }

    private int soonestEnd(int set, int a) {
        TreeSet<Integer> can = new TreeSet<>(List.of(0));
        for (int t = a; t < 60; t++) {
            TreeSet<Integer> next = new TreeSet<>();
            for (int cell : can) {
                int limit = limitOf(now.kids, set, cell, t);
                for (int go = 0; go <= limit; go++) {
                    next.add(Math.min(47, cell + go));
                }
            }
            can = next;
            if (can.contains(47)) {
                return t + 1;
            }
        }
        return 61;
    }

    int where(int a, int m) {
        if (!in(a, 0, 59) || !in(m, 0, 60)) {
            return bad(-2);
        }
        return m < a ? -1 : cellAt(now.kids, all(), a, m);
    }

    int there(int a) {
        if (!in(a, 0, 59)) {
            return bad(-2);
        }
        int end = end(now.kids, all(), a);
        return end == 61 ? -1 : end;
    }

    int soonest(int a) {
        if (!in(a, 0, 59)) {
            return bad(-2);
        }
        int end = soonestEnd(all(), a);
        return end == 61 ? -1 : end;
    }

    int start(int a) {
        if (!in(a, 0, 59)) {
            return bad(-2);
        }
        int best = 59;
        for (int t = 58; t >= a; t--) {
            if (end(now.kids, all(), t) < end(now.kids, all(), best)) {
                best = t;
            }
        }
        return end(now.kids, all(), best) == 61 ? -1 : best;
    }

    int speed(int n) {
        if (!in(n, 0, 15)) {
            return bad(-2);
        }
        if (now.speeds.size() == 20) {
            return full();
        }
        now.speeds.add(n);
        return now.speeds.size();
    }

    int stop() {
        int were = now.speeds.size();
        now.speeds.clear();
        return were;
    }

    int fined(int a, int what) {
        if (!in(a, 0, 59) || !in(what, 0, 2)) {
            return bad(-10);
        }
        List<Integer> over = new ArrayList<>();
        TreeSet<Integer> past = new TreeSet<>();
        int cell = 0;
        for (int t = a; t <= 59 && t - a < now.speeds.size(); t++) {
            int speed = now.speeds.get(t - a);
            over.add(Math.max(0, speed - limitOf(now.kids, all(), cell, t)));
            int to = Math.min(47, cell + speed);
            for (int i = 0; i < now.kids.size(); i++) {
                Kid kid = now.kids.get(i);
                for (int c = cell; c <= to; c++) {
                    if (to != cell && kid.isOut(t) && kid.cellAt(t) == c) {
                        past.add(i);
                    }
                }
            }
            cell = to;
        }
        return switch (what) {
            case 0 -> IntStream.range(0, over.size()).filter(i -> over.get(i) > 0).findFirst().orElse(-1);
            case 1 -> over.stream().mapToInt(Integer::intValue).sum();
            default -> past.stream().mapToInt(i -> 1 << i).sum();
        };
    }

    int toBed(int a, int h, int what) {
        if (!in(a, 0, 59) || !in(h, 0, 6) || !in(what, 0, 1)) {
            return bad(-2);
        }
        int best = IntStream.rangeClosed(0, all()).filter(s -> Integer.bitCount(s) <= h).boxed()
                .min(Comparator.<Integer>comparingInt(s -> soonestEnd(all() - s, a))
                        .thenComparingInt(Integer::bitCount).thenComparingInt(s -> s))
                .get();
        return what == 0 ? best : soonestEnd(all() - best, a);
    }

    int move(int a) {
        if (!in(a, 0, 59)) {
            return bad(-2);
        }
        int least = end(now.kids, all(), a);
        int best = -1;
        for (int i = 0; i < now.kids.size(); i++) {
            for (int cell = 0; cell <= 47; cell++) {
                List<Kid> kids = new ArrayList<>(now.kids);
                kids.set(i, kids.get(i).inCell(cell));
                if (end(kids, all(), a) < least) {
                    least = end(kids, all(), a);
                    best = 100 * i + cell;
                }
            }
        }
        return best;
    }

    private int gets(int own, int other) {
        int end = end(now.kids, all(), own);
        if (end == 61) {
            return 0;
        }
        return own == other + 1 || own == other + 2 ? 100 - (end + 4) : 100 - end;
    }

    int carters(int a, int what) {
        if (!in(a, 0, 50) || !in(what, 0, 1)) {
            return bad(-10);
        }
        int[][] gets = new int[6][6];
        for (int i = 0; i < 6; i++) {
            for (int j = 0; j < 6; j++) {
                gets[i][j] = gets(a + i, a + j);
            }
        }
        List<Integer> rest = new ArrayList<>();
        for (int i = 0; i < 6; i++) {
            for (int j = 0; j < 6; j++) {
                int one = i;
                int other = j;
                boolean oneRests = IntStream.range(0, 6).noneMatch(k -> gets[k][other] > gets[one][other]);
                boolean otherRests = IntStream.range(0, 6).noneMatch(k -> gets[k][one] > gets[other][one]);
                if (oneRests && otherRests) {
                    rest.add(10 * i + j);
                }
            }
        }
        if (what == 0) {
            return rest.size();
        }
        return rest.isEmpty() ? -1 : rest.get(0);
    }

    int reading(int cell, int minute, int v) {
        if (!in(cell, 0, 47) || !in(minute, 0, 59) || !in(v, 1, 9)) {
            return bad(-2);
        }
        if (now.seen.size() == 6) {
            return full();
        }
        now.seen.add(new Seen(cell, minute, v));
        return now.seen.size();
    }

    int forget() {
        int were = now.seen.size();
        now.seen.clear();
        return were;
    }

    private boolean fits(List<Kid> kids, int set) {
        return now.seen.stream().allMatch(s -> limitOf(kids, set, s.cell(), s.minute()) == s.v());
    }

    private List<Integer> fitting() {
        return IntStream.rangeClosed(0, all()).filter(s -> fits(now.kids, s)).boxed().collect(Collectors.toList());
    }

    int out(int what) {
        if (!in(what, 0, 1)) {
            return bad(-10);
        }
        List<Integer> sets = fitting();
        if (what == 0) {
            return sets.size();
        }
        return sets.stream().reduce((x, y) -> x & y).orElse(-1);
    }

    int look(int minute) {
        if (!in(minute, 0, 59)) {
            return bad(-2);
        }
        List<Integer> sets = fitting();
        if (sets.isEmpty()) {
            return -1;
        }
        int best = -1;
        int fewest = 65;
        for (int cell = 0; cell <= 47; cell++) {
            Map<Integer, Integer> like = new HashMap<>();
            for (int set : sets) {
                like.merge(limitOf(now.kids, set, cell, minute), 1, Integer::sum);
            }
            int most = like.values().stream().mapToInt(Integer::intValue).max().getAsInt();
            if (most < fewest) {
                best = cell;
                fewest = most;
            }
        }
        return best;
    }

    int dolls() {
        int bits = 0;
        for (int i = 0; i < now.kids.size(); i++) {
            List<Kid> kids = new ArrayList<>(now.kids);
            kids.set(i, kids.get(i).withKind(5));
            bits += fits(kids, all()) ? 1 << i : 0;
        }
        return bits;
    }

    int days(int seed, int n, int w) {
        if (!in(seed, 0, 999999) || !in(n, 0, 30) || !in(w, 0, 100)) {
            return bad(-2);
        }
        if (n == 0) {
            return no();
        }
        BigInteger x = BigInteger.valueOf(seed);
        long sum = 0;
        for (int day = 0; day < n; day++) {
            int well = 0;
            for (int i = 0; i < now.kids.size(); i++) {
                x = x.multiply(BigInteger.valueOf(1103515245)).add(BigInteger.valueOf(12345))
                        .mod(BigInteger.valueOf(2147483648L));
                int draw = x.divide(BigInteger.valueOf(65536)).mod(BigInteger.valueOf(100)).intValue();
                well += draw < w ? 0 : 1 << i;
            }
            sum += end(now.kids, well, 0);
        }
        long common = BigInteger.valueOf(sum).gcd(BigInteger.valueOf(n)).longValue();
        above = sum / common;
        below = n / common;
        return 1;
    }

    long part(int what) {
        if (!in(what, 0, 1)) {
            return bad(-2);
        }
        return what == 0 ? above : below;
    }

    int image(int i) {
        if (!in(i, 0, 1)) {
            return bad(-2);
        }
        images[i] = now.copy();
        return 1;
    }

    int from(int i) {
        if (!in(i, 0, 1)) {
            return bad(-2);
        }
        if (images[i] == null) {
            return no();
        }
        now = images[i].copy();
        return 1;
    }

    int status(int what) {
        return in(what, 0, 2) ? refused[what] : bad(-1);
    }

    private List<Long> counts() {
        return List.of((long) now.kids.size(), (long) now.sight, (long) now.law, (long) now.speeds.size(),
                (long) now.seen.size(), (long) now.before.size(), (long) text.length());
    }

    int count(int what) {
        return in(what, 0, 6) ? counts().get(what).intValue() : bad(-2);
    }

    long digest() {
        List<Long> values = new ArrayList<>(counts());
        for (Kid k : now.kids) {
            values.addAll(List.of((long) k.kind(), (long) k.height(), (long) k.cell(), (long) k.steps(), (long) k.bed()));
        }
        now.speeds.forEach(s -> values.add((long) s));
        now.seen.forEach(s -> values.addAll(List.of((long) s.cell(), (long) s.minute(), (long) s.v())));
        values.addAll(List.of(above, below));
        return values.stream().reduce(977L, (h, v) -> 31 * h + v);
    }
}
