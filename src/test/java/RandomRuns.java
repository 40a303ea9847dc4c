import java.lang.reflect.InvocationTargetException;
import java.lang.reflect.Method;
import java.util.Arrays;
import java.util.LinkedHashMap;
import java.util.List;
import java.util.Map;
import java.util.Random;

/** Runs of chance calls (by seeds that stay), each answer compared with SlowRoad's. */
final class RandomRuns {
    private static final int RUNS = 400;
    private static final int TEXT_RUNS = 3000;
    private static final int CALLS = 512;

    /** What each call takes at least and at most, argument by argument. */
    private static final Map<String, int[]> BOUNDS = new LinkedHashMap<>();
    private static final Map<String, Method> FAST = new LinkedHashMap<>();
    private static final Map<String, Method> SLOW = new LinkedHashMap<>();

    static {
        BOUNDS.put("road", new int[] {0, 47, 0, 2});
        BOUNDS.put("rule", new int[] {0, 2});
        BOUNDS.put("sight", new int[] {0, 47});
        BOUNDS.put("child", new int[] {0, 5, 1, 9, 0, 47, 0, 3, 0, 60});
        BOUNDS.put("stand", new int[] {0, 5, 0, 47});
        BOUNDS.put("bed", new int[] {0, 5, 0, 60});
        BOUNDS.put("undo", new int[] {});
        BOUNDS.put("type", new int[] {0, 127});
        BOUNDS.put("clear", new int[] {});
        BOUNDS.put("read", new int[] {});
        BOUNDS.put("of", new int[] {0, 5, 0, 59, 0, 5});
        BOUNDS.put("limit", new int[] {0, 47, 0, 59, 0, 1});
        BOUNDS.put("where", new int[] {0, 59, 0, 60});
        BOUNDS.put("there", new int[] {0, 59});
        BOUNDS.put("soonest", new int[] {0, 59});
        BOUNDS.put("start", new int[] {0, 59});
        BOUNDS.put("speed", new int[] {0, 15});
        BOUNDS.put("stop", new int[] {});
        BOUNDS.put("fined", new int[] {0, 59, 0, 2});
        BOUNDS.put("toBed", new int[] {0, 59, 0, 6, 0, 1});
        BOUNDS.put("move", new int[] {0, 59});
        BOUNDS.put("carters", new int[] {0, 50, 0, 1});
        BOUNDS.put("reading", new int[] {0, 47, 0, 59, 1, 9});
        BOUNDS.put("forget", new int[] {});
        BOUNDS.put("out", new int[] {0, 1});
        BOUNDS.put("look", new int[] {0, 59});
        BOUNDS.put("dolls", new int[] {});
        BOUNDS.put("days", new int[] {0, 999999, 0, 30, 0, 100});
        BOUNDS.put("part", new int[] {0, 1});
        BOUNDS.put("image", new int[] {0, 1});
        BOUNDS.put("from", new int[] {0, 1});
        BOUNDS.put("status", new int[] {0, 2});
        BOUNDS.put("count", new int[] {0, 6});
        BOUNDS.put("digest", new int[] {});
        for (Method m : SmallestSpeed.class.getDeclaredMethods()) {
            if (BOUNDS.containsKey(m.getName())) {
                FAST.put(m.getName(), m);
            }
        }
        for (Method m : SlowRoad.class.getDeclaredMethods()) {
            if (BOUNDS.containsKey(m.getName())) {
                SLOW.put(m.getName(), m);
            }
        }
    }

    /** Calls that are told more than once come the more often; those that forget much are rare. */
    private static final List<String> OFTEN = List.of(
            "stand", "stand", "bed", "bed", "undo", "undo", "of", "of", "limit", "limit", "limit", "limit",
            "where", "where", "there", "there", "soonest", "soonest", "start", "speed", "speed", "speed", "speed",
            "fined", "fined", "fined", "toBed", "carters", "carters", "reading", "reading", "reading", "out", "out",
            "look", "look", "dolls", "days", "part", "part", "image", "from", "status", "status", "count", "count",
            "digest", "digest", "rule", "sight", "child", "type");
    private static final List<String> RARE = List.of(
            "road", "clear", "read", "stop", "forget", "forget", "move", "move", "from", "child", "child");

    private final Random chance;
    private final int number;
    private final SmallestSpeed fast = new SmallestSpeed();
    private final SlowRoad slow = new SlowRoad();
    private int calls;

    private RandomRuns(int number) {
        this.number = number;
        this.chance = new Random(7919L * number + 13);
    }

    static void run() {
        for (int i = 0; i < RUNS; i++) {
            new RandomRuns(i).mixedRun();
        }
        for (int i = 0; i < TEXT_RUNS; i++) {
            new RandomRuns(RUNS + i).textRun();
        }
    }

    private void mixedRun() {
        call("road", chance.nextInt(48), chance.nextInt(3));
        int kids = chance.nextInt(7);
        for (int i = 0; i < kids; i++) {
            call("child", chance.nextInt(6), 1 + chance.nextInt(9), chance.nextInt(48), chance.nextInt(4),
                    chance.nextInt(3) == 0 ? chance.nextInt(61) : 60);
        }
        while (calls < CALLS - 10) {
            if (chance.nextInt(60) == 0) {
                readingsOfOneSet();
            }
            List<String> names = chance.nextInt(20) == 0 ? RARE : OFTEN;
            String name = names.get(chance.nextInt(names.size()));
            call(name, arguments(BOUNDS.get(name)));
        }
        call("digest");
    }

    private void readingsOfOneSet() {
        call("forget");
        int set = chance.nextInt(64);
        int many = 1 + chance.nextInt(4);
        for (int i = 0; i < many; i++) {
            int cell = chance.nextInt(48);
            int minute = chance.nextInt(60);
            call("reading", cell, minute, slow.limitBySet(set, cell, minute));
        }
        call("out", 0);
        call("out", 1);
        call("look", chance.nextInt(60));
        call("dolls");
    }

    private int[] arguments(int[] bounds) {
        int[] args = new int[bounds.length / 2];
        for (int i = 0; i < args.length; i++) {
            int least = bounds[2 * i];
            int most = bounds[2 * i + 1];
            args[i] = switch (chance.nextInt(60)) {
                case 0 -> least - 1;
                case 1 -> most + 1;
                case 2 -> chance.nextInt();
                case 3 -> chance.nextBoolean() ? Integer.MIN_VALUE : Integer.MAX_VALUE;
                case 4, 5, 6 -> least;
                case 7, 8, 9 -> most;
                default -> least + chance.nextInt(most - least + 1);
            };
        }
        return args;
    }

    private void textRun() {
        call("child", 1, 2, 3, 1, 50);
        call("speed", 4);
        call("reading", 5, 6, 7);
        call("stand", 0, 9);
        for (int turn = 0; turn < 2; turn++) {
            call("clear");
            String text = chanceText();
            for (int i = 0; i < text.length(); i++) {
                call("type", text.charAt(i));
            }
            call("read");
            call("digest");
            call("count", 5);
            call("there", 0);
        }
        for (int i = 0; i < 3; i++) {
            call("status", i);
        }
    }

    private String chanceText() {
        StringBuilder text = new StringBuilder();
        blanks(text);
        if (chance.nextInt(20) != 0) {
            text.append("road");
            number(text, 0, 47);
            number(text, 0, 2);
            end(text);
        }
        int kids = chance.nextInt(8);
        for (int i = 0; i < kids; i++) {
            text.append("child");
            number(text, 0, 5);
            number(text, 1, 9);
            number(text, 0, 47);
            number(text, 0, 3);
            number(text, 0, 60);
            end(text);
        }
        int hurts = Math.max(0, chance.nextInt(4) - 1);
        for (int i = 0; i < hurts && text.length() > 0; i++) {
            hurt(text);
        }
        return text.toString();
    }

    private void blanks(StringBuilder text) {
        text.append(" ".repeat(chance.nextInt(4) == 0 ? chance.nextInt(3) : 0));
    }

    private void number(StringBuilder text, int least, int most) {
        int n = least + chance.nextInt(most - least + 1);
        if (chance.nextInt(50) == 0) {
            n = chance.nextBoolean() ? most + 1 : chance.nextInt(120);
        }
        boolean apart = chance.nextInt(30) != 0;
        text.append(apart ? " " : "");
        blanks(text);
        text.append(n < 10 && chance.nextInt(10) == 0 ? "0" : "").append(n);
    }

    private void end(StringBuilder text) {
        blanks(text);
        text.append(";");
        blanks(text);
    }

    private void hurt(StringBuilder text) {
        String signs = "roadchilxz019 ;;-A`{/:\t\n\0\u007f";
        int at = chance.nextInt(text.length());
        char sign = signs.charAt(chance.nextInt(signs.length()));
        switch (chance.nextInt(4)) {
            case 0 -> text.setCharAt(at, sign);
            case 1 -> text.insert(at, sign);
            case 2 -> text.deleteCharAt(at);
            default -> text.setLength(at);
        }
    }

    private void call(String name, int... args) {
        calls++;
        Object[] boxed = Arrays.stream(args).boxed().toArray();
        long got = answer(FAST.get(name), fast, boxed);
        long want = answer(SLOW.get(name), slow, boxed);
        Check.due("run " + number + ", call " + calls + ": " + name + Arrays.toString(args), got, want);
    }

    private static long answer(Method m, Object of, Object[] args) {
        try {
            return ((Number) m.invoke(of, args)).longValue();
        } catch (InvocationTargetException | IllegalAccessException e) {
            throw new IllegalStateException(m.getName() + Arrays.toString(args), e);
        }
    }
}
