import java.lang.management.ManagementFactory;

/** An object takes little room, and no call takes more. */
final class RoomTests {
    private static final int OBJECTS = 200;
    private static final int MOST_BYTES = 6000;
    /** The machine itself may take some bytes by the way, but not an object's in each turn. */
    private static final int LEAST_OBJECT_BYTES = 16;
    private static final int TURNS = 20;

    private RoomTests() {
    }

    static void run() {
        if (!(ManagementFactory.getThreadMXBean() instanceof com.sun.management.ThreadMXBean bean)
                || !bean.isThreadAllocatedMemorySupported()) {
            return;
        }
        SmallestSpeed[] kept = new SmallestSpeed[OBJECTS];
        kept[0] = new SmallestSpeed();
        long before = bean.getCurrentThreadAllocatedBytes();
        for (int i = 1; i < OBJECTS; i++) {
            kept[i] = new SmallestSpeed();
        }
        long each = (bean.getCurrentThreadAllocatedBytes() - before) / (OBJECTS - 1);
        Check.that("an object takes " + each + " bytes", each <= MOST_BYTES);
        everyCall(kept[0]);
        long then = bean.getCurrentThreadAllocatedBytes();
        for (int i = 1; i <= TURNS; i++) {
            everyCall(kept[i]);
        }
        long taken = bean.getCurrentThreadAllocatedBytes() - then;
        Check.that("calls took " + taken + " bytes", taken < LEAST_OBJECT_BYTES * TURNS);
    }

    private static void everyCall(SmallestSpeed x) {
        x.road(10, 2);
        for (int i = 0; i < 7; i++) {
            x.child(i % 6, 1 + i, 6 * i, i % 4, 60 - i);
            x.speed(2 * i);
            x.type(97 + i);
        }
        x.stand(0, 5);
        x.bed(1, 50);
        x.undo();
        x.read();
        x.clear();
        String text = "road 10 1;child 0 3 4 1 60;child 5 9 47 3 60;";
        for (int i = 0; i < text.length(); i++) {
            x.type(text.charAt(i));
        }
        x.image(0);
        x.read();
        x.image(1);
        x.from(0);
        x.rule(0);
        x.sight(20);
        x.of(0, 5, 3);
        x.limit(5, 5, 0);
        x.limit(5, 5, 1);
        x.where(0, 60);
        x.there(0);
        x.soonest(0);
        x.start(0);
        x.fined(0, 2);
        x.toBed(0, 6, 0);
        x.move(0);
        x.carters(0, 0);
        x.reading(5, 5, x.limit(5, 5, 0));
        x.out(0);
        x.out(1);
        x.look(9);
        x.dolls();
        x.days(77, 30, 50);
        x.part(0);
        x.status(0);
        x.count(0);
        x.digest();
        x.stop();
        x.forget();
    }
}
