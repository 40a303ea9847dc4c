import java.util.ArrayList;
import java.util.List;
import java.util.function.Supplier;

/** What the tests of single sentences share, which are classes under this one. */
abstract class Edges {
    static final int NONE = -1;
    static final int BAD = -2;
    static final int NO = -3;
    static final int FULL = -4;
    static final int MINUS_TEN = -10;
    static final int MIN = Integer.MIN_VALUE;
    static final int MAX = Integer.MAX_VALUE;

    /** How many children, speeds, readings and bytes busy() has, and how many may be undone there. */
    static final int BUSY_CHILDREN = 3;
    static final int BUSY_SPEEDS = 2;
    static final int BUSY_READINGS = 2;
    static final int BUSY_UNDOS = 3;
    static final int BUSY_BYTES = 26;

    private static String title = "";

    interface Call {
        long of(SmallestSpeed x);
    }

    /** A call in which one argument is looked at. */
    interface CallBy {
        long of(SmallestSpeed x, int n);
    }

    static void begin(String name) {
        title = name;
    }

    static void due(String what, long got, long want) {
        Check.due(title + ": " + what, got, want);
    }

    static SmallestSpeed road(int sight, int law) {
        SmallestSpeed x = new SmallestSpeed();
        x.road(sight, law);
        return x;
    }

    /** A road of which everything is told: children, speeds, readings, undos, images, text, fraction, status. */
    static SmallestSpeed busy() {
        SmallestSpeed x = road(20, 2);
        x.child(1, 4, 12, 1, 50);
        x.stand(0, 13);
        x.image(0);
        x.child(0, 2, 30, 0, 60);
        x.speed(5);
        x.reading(3, 4, 5);
        x.image(1);
        x.child(2, 6, 8, 3, 40);
        x.bed(1, 55);
        x.stand(2, 9);
        x.bed(0, 45);
        x.speed(12);
        x.reading(6, 7, 8);
        type(x, "road 5 1;child 2 3 4 1 60;");
        x.days(1, 4, 38);
        x.days(1, 0, 38);
        x.rule(3);
        return x;
    }

    /** As many as there may be: children, speeds, readings, undos, bytes. */
    static SmallestSpeed full() {
        SmallestSpeed x = road(47, 1);
        for (int i = 0; i < 6; i++) {
            x.child(i, i + 1, 7 * i, i % 4, 60 - i);
            x.reading(i, i, i + 1);
        }
        for (int i = 0; i < 20; i++) {
            x.speed(i % 16);
        }
        for (int i = 0; i < 8; i++) {
            x.stand(i % 6, i);
        }
        type(x, " ".repeat(150));
        return x;
    }

    static SmallestSpeed withImages() {
        SmallestSpeed x = full();
        x.image(0);
        x.undo();
        x.image(1);
        return x;
    }

    static void type(SmallestSpeed x, String text) {
        for (int i = 0; i < text.length(); i++) {
            x.type(text.charAt(i));
        }
    }

    static long readOf(String text) {
        SmallestSpeed x = new SmallestSpeed();
        type(x, text);
        return x.read();
    }

    static void counts(SmallestSpeed x, int... wants) {
        for (int i = 0; i < wants.length; i++) {
            due("count(" + i + ")", x.count(i), wants[i]);
        }
    }

    static void fraction(SmallestSpeed x, long above, long below) {
        due("above", x.part(0), above);
        due("below", x.part(1), below);
    }

    static void status(SmallestSpeed x, int bad, int no, int full) {
        due("BAD", x.status(0), bad);
        due("NO", x.status(1), no);
        due("FULL", x.status(2), full);
    }

    static long digestOf(long... values) {
        long h = 977;
        for (long v : values) {
            h = 31 * h + v;
        }
        return h;
    }

    /** What can be told of a road, its undos, its images and its text; the road is of no use then. */
    private static List<Long> everything(SmallestSpeed x) {
        List<Long> all = new ArrayList<>();
        addUndos(all, x);
        for (int i = 0; i <= 1; i++) {
            all.add((long) x.from(i));
            addUndos(all, x);
        }
        all.add((long) x.read());
        all.add(x.digest());
        return all;
    }

    private static void addUndos(List<Long> all, SmallestSpeed x) {
        all.add(x.digest());
        for (int n = x.count(5); n > 0; n--) {
            all.add((long) x.undo());
            all.add(x.digest());
        }
    }

    /** The answer, and that nothing changes but the one count of STATUS that it belongs to. */
    static void refused(Supplier<SmallestSpeed> made, Call call, long answer) {
        SmallestSpeed x = made.get();
        SmallestSpeed same = made.get();
        int kind = answer == NO ? 1 : answer == FULL ? 2 : 0;
        due("refused", call.of(x), answer);
        for (int i = 0; i <= 2; i++) {
            due("STATUS " + i, x.status(i), same.status(i) + (i == kind ? 1 : 0));
        }
        Check.that(title + ": nothing else changes", everything(x).equals(everything(same)));
    }

    static void refused(Call call, long answer) {
        refused(Edges::busy, call, answer);
    }

    /** Refused just below the least, just above the most, and far off. */
    static void beyond(Supplier<SmallestSpeed> made, int least, int most, long answer, CallBy call) {
        int[] wrong = {least - 1, most + 1, least - 1000, most + 1000, MIN, MAX, least + 65536, MIN + most};
        for (int n : wrong) {
            if (n < least || n > most) {
                refused(made, x -> call.of(x, n), answer);
            }
        }
    }

    static void beyond(int least, int most, long answer, CallBy call) {
        beyond(Edges::busy, least, most, answer, call);
    }

    /** The answer, and that STATUS stays; the road as it is then. */
    static SmallestSpeed taken(Supplier<SmallestSpeed> made, Call call, long answer) {
        SmallestSpeed x = made.get();
        SmallestSpeed same = made.get();
        due("taken", call.of(x), answer);
        for (int i = 0; i <= 2; i++) {
            due("STATUS " + i, x.status(i), same.status(i));
        }
        return x;
    }

    static SmallestSpeed taken(Call call, long answer) {
        return taken(Edges::busy, call, answer);
    }

    /** A call that answers and changes nothing at all. */
    static void changesNothing(Supplier<SmallestSpeed> made, Call call) {
        SmallestSpeed x = made.get();
        SmallestSpeed same = made.get();
        call.of(x);
        for (int i = 0; i <= 2; i++) {
            due("STATUS " + i, x.status(i), same.status(i));
        }
        Check.that(title + ": nothing is changed", everything(x).equals(everything(same)));
    }

    static void changesNothing(Call call) {
        changesNothing(Edges::busy, call);
        changesNothing(Edges::withImages, call);
        changesNothing(SmallestSpeed::new, call);
    }

    /** One child of a height, seen in the whole road, who stands in cell 0 and is never in bed. */
    static SmallestSpeed slow(int height) {
        SmallestSpeed x = road(47, 0);
        x.child(0, height, 0, 0, 60);
        return x;
    }
}
