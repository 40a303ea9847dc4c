import java.math.BigInteger;

/** Promises 30 to 35, sentence by sentence: the fraction, images, status, counts, the digest. */
final class ThereIsEdges extends Edges {
    private static final String IMAGES = "IMAGES 0, 1 keep all but them, THE TEXT, THE FRACTION and STATUS; what may be undone they keep; it "
            + "goes on from one";
    private static final String STATUS = "STATUS: how many calls were refused as BAD, NO, FULL (each answer told so below is such a one)";
    private static final String DIGEST = "h = 977; then h = 31 h + v for each v: count(0) to count(6); of CHILDREN KIND, HEIGHT, CELL (at "
            + "first), STEPS, BED; SPEEDS; of READINGS CELL, MINUTE, v; THE FRACTION";

    /** The calls of which each is refused as BAD in any road, by one number that is not as told. */
    private static final Call[] BADS = {
        x -> x.road(48, 0), x -> x.rule(3), x -> x.sight(48), x -> x.child(6, 1, 0, 0, 0), x -> x.stand(6, 0),
        x -> x.bed(6, 0), x -> x.type(128), x -> x.of(6, 0, 0), x -> x.where(0, 61), x -> x.there(60),
        x -> x.soonest(60), x -> x.start(60), x -> x.speed(16), x -> x.toBed(0, 7, 0), x -> x.move(60),
        x -> x.reading(0, 0, 0), x -> x.look(60), x -> x.days(0, 1, 101), x -> x.part(2), x -> x.image(2),
        x -> x.from(2), x -> x.count(7)};
    private static final Call[] MINUS_TENS = {
        x -> x.limit(48, 0, 0), x -> x.fined(60, 0), x -> x.carters(51, 0), x -> x.out(2)};

    /** A road of which nothing is like busy(): a child, a speed, a reading, a text, a fraction of its own. */
    private static SmallestSpeed another() {
        SmallestSpeed x = road(3, 1);
        x.child(3, 9, 1, 2, 3);
        x.speed(1);
        x.reading(40, 41, 2);
        x.bed(0, 4);
        type(x, "abc");
        x.days(1, 1, 100);
        return x;
    }

    // ---- 30: part

    @Edge(promise = 30, says = {"THE FRACTION: above (0), below (1)", "BAD"})
    static void p30_part_what0And1() {
        taken(x -> x.part(1), 2);
        taken(SmallestSpeed::new, x -> x.part(0), 0);
        taken(SmallestSpeed::new, x -> x.part(1), 1);
        beyond(0, 1, BAD, (x, n) -> x.part(n));
        changesNothing(x -> x.part(0));
        changesNothing(x -> x.part(1));
    }

    @Edge(promise = 30, says = "THE FRACTION is 0 by 1 at first; lowest terms, below above 0")
    static void p30_part_0By1AtFirst() {
        SmallestSpeed x = new SmallestSpeed();
        fraction(x, 0, 1);
        x.days(-1, 1, 0);
        x.days(0, 0, 0);
        fraction(x, 0, 1);
        x.days(0, 7, 0);
        fraction(x, 6, 1);
    }

    @Edge(promise = 30, says = "THE FRACTION is 0 by 1 at first; lowest terms, below above 0")
    static void p30_part_lowestTermsBelowAbove0() {
        for (int n = 1; n <= 30; n++) {
            SmallestSpeed x = slow(1);
            x.days(1, n, 50);
            long above = x.part(0);
            long below = x.part(1);
            Check.that("below is above 0", below > 0);
            Check.that("below measures the days", below > 0 && n % below == 0);
            due("lowest terms", BigInteger.valueOf(above).gcd(BigInteger.valueOf(below)).longValue(), 1);
            Check.that("between 6 and 47", 6 * below <= above && above <= 47 * below);
        }
        SmallestSpeed x = slow(1);
        x.days(1, 30, 0);
        fraction(x, 47, 1);
        x.days(1, 29, 0);
        fraction(x, 47, 1);
        x.days(1, 30, 50);
        fraction(x, 53, 2);
    }

    // ---- 31: image

    @Edge(promise = 31, says = {"An IMAGE is kept: 1", "BAD"})
    static void p31_image_0And1() {
        taken(x -> x.image(0), 1);
        taken(x -> x.image(1), 1);
        taken(SmallestSpeed::new, x -> x.image(0), 1);
        taken(Edges::full, x -> x.image(1), 1);
        beyond(0, 1, BAD, (x, n) -> x.image(n));
        beyond(SmallestSpeed::new, 0, 1, BAD, (x, n) -> x.image(n));
    }

    @Edge(promise = 31, says = {"An IMAGE is kept: 1", IMAGES})
    static void p31_image_nothingElse() {
        for (int i = 0; i <= 1; i++) {
            SmallestSpeed x = busy();
            x.image(i);
            due("the road stays", x.digest(), busy().digest());
            status(x, 1, 1, 0);
            due("what may be undone stays", x.undo(), BUSY_UNDOS - 1);
            due("the other image", x.from(1 - i), 1);
            counts(x, i == 0 ? 2 : 1, 20, 2, i == 0 ? 1 : 0, i == 0 ? 1 : 0, i == 0 ? 0 : 1, BUSY_BYTES);
        }
    }

    @Edge(promise = 31, says = "An IMAGE is kept: 1")
    static void p31_image_keptAnew() {
        SmallestSpeed x = new SmallestSpeed();
        x.image(0);
        x.sight(1);
        x.image(0);
        x.sight(2);
        due("the newer one", x.from(0), 1);
        counts(x, 0, 1);
        x.image(1);
        x.sight(5);
        x.image(0);
        x.from(1);
        counts(x, 0, 1);
        x.from(0);
        counts(x, 0, 5);
    }

    @Edge(promise = 31, says = IMAGES)
    static void p31_image_ofAnEmptyRoad() {
        SmallestSpeed x = new SmallestSpeed();
        x.image(1);
        for (int i = 0; i < 6; i++) {
            x.child(0, 1, 1, 1, 1);
            x.reading(1, 1, 1);
            x.speed(1);
        }
        x.bed(5, 5);
        due("back", x.from(1), 1);
        due("as at first", x.digest(), new SmallestSpeed().digest());
        due("nothing to undo", x.undo(), NO);
        due("a first child", x.child(0, 1, 1, 1, 1), 0);
    }

    @Edge(promise = 31, says = IMAGES)
    static void p31_image_ofAFullRoad() {
        SmallestSpeed x = full();
        x.image(0);
        x.road(3, 0);
        x.child(5, 9, 40, 3, 33);
        x.child(5, 9, 40, 3, 33);
        x.speed(14);
        x.reading(44, 55, 7);
        x.bed(1, 2);
        x.bed(0, 3);
        due("back", x.from(0), 1);
        due("as it was", x.digest(), full().digest());
        for (int n = 7; n >= 0; n--) {
            due("undone", x.undo(), n);
        }
        SmallestSpeed undone = full();
        while (undone.count(5) > 0) {
            undone.undo();
        }
        due("as it was ahead of all eight", x.digest(), undone.digest());
    }

    // ---- 32: from

    @Edge(promise = 32, says = {"It goes on from an IMAGE: 1", "BAD"})
    static void p32_from_0And1() {
        taken(x -> x.from(0), 1);
        taken(x -> x.from(1), 1);
        beyond(0, 1, BAD, (x, n) -> x.from(n));
    }

    @Edge(promise = 32, says = "NO: none was kept")
    static void p32_from_noneWasKept() {
        refused(SmallestSpeed::new, x -> x.from(0), NO);
        refused(SmallestSpeed::new, x -> x.from(1), NO);
        refused(Edges::full, x -> x.from(0), NO);
        refused(Edges::full, x -> x.from(1), NO);
        for (int i = 0; i <= 1; i++) {
            SmallestSpeed x = another();
            x.image(i);
            due("the other one was not kept", x.from(1 - i), NO);
            due("this one was", x.from(i), 1);
            due("by that the other one is not", x.from(1 - i), NO);
        }
    }

    @Edge(promise = 32, says = "Refused, changing nothing but STATUS, the first of")
    static void p32_from_badAheadOfNo() {
        beyond(SmallestSpeed::new, 0, 1, BAD, (x, n) -> x.from(n));
        beyond(Edges::full, 0, 1, BAD, (x, n) -> x.from(n));
    }

    @Edge(promise = 32, says = {"It goes on from an IMAGE: 1", IMAGES})
    static void p32_from_allBut() {
        SmallestSpeed x = busy();
        x.image(0);
        long above = x.part(0);
        x.road(3, 1);
        x.child(3, 9, 1, 2, 3);
        x.speed(1);
        x.reading(40, 41, 2);
        x.bed(0, 4);
        x.clear();
        type(x, "abc");
        x.days(1, 1, 100);
        x.type(128);
        due("back", x.from(0), 1);
        Check.that("the fraction is another", above != 6);
        fraction(x, 6, 1);
        status(x, 2, 1, 0);
        counts(x, BUSY_CHILDREN, 20, 2, BUSY_SPEEDS, BUSY_READINGS, BUSY_UNDOS, 3);
        due("the text is as it was", x.read(), -10);
        x.clear();
        type(x, "road 5 1;child 2 3 4 1 60;");
        x.from(0);
        x.days(1, 4, 38);
        due("all else as kept", x.digest(), busy().digest());
    }

    @Edge(promise = 32, says = "what may be undone they keep")
    static void p32_from_whatMayBeUndone() {
        SmallestSpeed x = busy();
        x.image(0);
        while (x.count(5) > 0) {
            x.undo();
        }
        long undone = x.digest();
        x.stand(0, 40);
        x.stand(0, 41);
        due("back", x.from(0), 1);
        due("as many", x.count(5), BUSY_UNDOS);
        for (int n = BUSY_UNDOS - 1; n >= 0; n--) {
            due("undone", x.undo(), n);
        }
        due("as it was ahead of them", x.digest(), undone);
        x.from(0);
        due("they are kept though undone then", x.count(5), BUSY_UNDOS);
    }

    @Edge(promise = 32, says = IMAGES)
    static void p32_from_oftener() {
        SmallestSpeed x = another();
        x.image(0);
        long kept = x.digest();
        for (int i = 0; i < 5; i++) {
            x.stand(0, 10 + i);
            x.rule(i % 3);
            x.sight(20 + i);
            x.child(0, 1, 1, 1, 1);
            x.speed(i);
            x.reading(i, i, 9);
            due("back", x.from(0), 1);
            due("as kept", x.digest(), kept);
        }
        due("from it once more", x.from(0), 1);
        due("as kept", x.digest(), kept);
    }

    @Edge(promise = 32, says = IMAGES)
    static void p32_from_eachByItself() {
        SmallestSpeed x = another();
        x.image(0);
        long first = x.digest();
        x.child(4, 4, 4, 1, 44);
        x.stand(1, 5);
        x.image(1);
        long second = x.digest();
        for (int i = 0; i < 3; i++) {
            x.from(0);
            due("the first", x.digest(), first);
            x.bed(0, i);
            x.from(1);
            due("the second", x.digest(), second);
            x.undo();
        }
    }

    // ---- 33: status

    @Edge(promise = 33, says = {"STATUS: BAD (0), NO (1), FULL (2)", STATUS})
    static void p33_status_what0To2() {
        status(new SmallestSpeed(), 0, 0, 0);
        for (int what = 0; what <= 2; what++) {
            int asked = what;
            changesNothing(x -> x.status(asked));
        }
    }

    @Edge(promise = 33, says = "-1: another what (counts as BAD)")
    static void p33_status_anotherWhat() {
        beyond(0, 2, -1, (x, n) -> x.status(n));
        beyond(SmallestSpeed::new, 0, 2, -1, (x, n) -> x.status(n));
        SmallestSpeed x = new SmallestSpeed();
        for (int i = 0; i < 4; i++) {
            status(x, i, 0, 0);
            due("another what", x.status(3), -1);
        }
    }

    @Edge(promise = 33, says = {STATUS, "BAD -2 a number is not as told"})
    static void p33_status_eachBad() {
        SmallestSpeed x = new SmallestSpeed();
        for (int i = 0; i < BADS.length; i++) {
            due("BAD " + i, BADS[i].of(x), BAD);
            status(x, i + 1, 0, 0);
        }
        for (Call bad : BADS) {
            refused(bad, BAD);
            refused(Edges::full, bad, BAD);
        }
    }

    @Edge(promise = 33, says = {STATUS, "FULL -4 (where others are told they count as these)"})
    static void p33_status_eachMinus10() {
        SmallestSpeed x = new SmallestSpeed();
        for (int i = 0; i < MINUS_TENS.length; i++) {
            due("-10 " + i, MINUS_TENS[i].of(x), MINUS_TEN);
            status(x, i + 1, 0, 0);
        }
        for (Call bad : MINUS_TENS) {
            refused(bad, MINUS_TEN);
            refused(Edges::full, bad, MINUS_TEN);
        }
    }

    @Edge(promise = 33, says = {STATUS, "NO -3 as told"})
    static void p33_status_eachNo() {
        Call[] nos = {x -> x.undo(), x -> x.days(1, 0, 1), x -> x.from(0), x -> x.from(1)};
        SmallestSpeed x = new SmallestSpeed();
        for (int i = 0; i < nos.length; i++) {
            due("NO " + i, nos[i].of(x), NO);
            status(x, 0, i + 1, 0);
        }
    }

    @Edge(promise = 33, says = {STATUS, "FULL -4 (where others are told they count as these)"})
    static void p33_status_eachFull() {
        Call[] fulls = {x -> x.child(0, 1, 1, 1, 1), x -> x.type(' '), x -> x.speed(1), x -> x.reading(1, 1, 1)};
        SmallestSpeed x = full();
        for (int i = 0; i < fulls.length; i++) {
            due("FULL " + i, fulls[i].of(x), FULL);
            status(x, 0, 0, i + 1);
        }
    }

    @Edge(promise = 33, says = STATUS)
    static void p33_status_notWhatIsAnswered() {
        SmallestSpeed x = new SmallestSpeed();
        due("nobody is the nearest", x.limit(0, 0, 1), NONE);
        due("ahead of a", x.where(5, 4), NONE);
        due("not there", x.there(59), NONE);
        due("not soonest", x.soonest(59), NONE);
        due("no start", x.start(59), NONE);
        due("none is fined", x.fined(0, 0), NONE);
        due("no move", x.move(0), NONE);
        due("none is soonest", x.toBed(59, 0, 1), 61);
        x.reading(0, 0, 8);
        due("no set", x.out(0), 0);
        due("no set", x.out(1), NONE);
        due("no set", x.look(0), NONE);
        due("no doll", x.dolls(), 0);
        due("an empty text", x.read(), -10);
        type(x, "road 1 2;child 7");
        due("a fault", x.read(), -25);
        status(x, 0, 0, 0);
    }

    @Edge(promise = 33, says = STATUS)
    static void p33_status_staysThroughAll() {
        SmallestSpeed x = full();
        x.speed(16);
        x.speed(1);
        x.speed(1);
        x.image(0);
        x.from(1);
        x.from(1);
        x.from(1);
        x.from(0);
        x.road(1, 1);
        x.clear();
        type(x, "road 1 1;");
        x.read();
        x.stop();
        x.forget();
        status(x, 1, 3, 2);
    }

    @Edge(promise = 33, says = "(Nothing is changed by these.)")
    static void p33_status_refusedQuestionsChangeNothingElse() {
        SmallestSpeed x = busy();
        Call[] questions = {y -> y.limit(0, 60, 0), y -> y.where(60, 0), y -> y.there(-1), y -> y.soonest(-1),
            y -> y.start(-1), y -> y.fined(0, 3), y -> y.toBed(60, 0, 0), y -> y.move(-1), y -> y.carters(0, 2),
            y -> y.out(-1), y -> y.look(-1), y -> y.of(0, 60, 0), y -> y.part(-1), y -> y.count(-1)};
        for (Call question : questions) {
            question.of(x);
            due("the road stays", x.digest(), busy().digest());
        }
        status(x, 1 + questions.length, 1, 0);
    }

    // ---- 34: count

    @Edge(promise = 34, says = {"How many: 0 CHILDREN, 1 SIGHT, 2 LAW, 3 SPEEDS, 4 READINGS, 5 that may be undone, 6 bytes of THE TEXT",
        "BAD"})
    static void p34_count_what0To6() {
        counts(busy(), BUSY_CHILDREN, 20, 2, BUSY_SPEEDS, BUSY_READINGS, BUSY_UNDOS, BUSY_BYTES);
        for (int what = 0; what <= 6; what++) {
            int asked = what;
            changesNothing(x -> x.count(asked));
        }
        beyond(0, 6, BAD, (x, n) -> x.count(n));
        beyond(SmallestSpeed::new, 0, 6, BAD, (x, n) -> x.count(n));
    }

    @Edge(promise = 34, says = "How many: 0 CHILDREN, 1 SIGHT, 2 LAW, 3 SPEEDS, 4 READINGS, 5 that may be undone, 6 bytes of THE TEXT")
    static void p34_count_emptyAndFull() {
        counts(new SmallestSpeed(), 0, 10, 0, 0, 0, 0, 0);
        counts(road(0, 0), 0, 0, 0, 0, 0, 0, 0);
        counts(full(), 6, 47, 1, 20, 6, 8, 150);
        SmallestSpeed x = full();
        x.child(0, 1, 1, 1, 1);
        x.speed(1);
        x.reading(1, 1, 1);
        x.type(' ');
        counts(x, 6, 47, 1, 20, 6, 8, 150);
        x.stand(0, 0);
        counts(x, 6, 47, 1, 20, 6, 8, 150);
        x.road(47, 2);
        counts(x, 0, 47, 2, 0, 0, 0, 150);
        x.clear();
        counts(x, 0, 47, 2, 0, 0, 0, 0);
    }

    // ---- 35: digest

    @Edge(promise = 35, says = DIGEST)
    static void p35_digest_ofAnEmptyRoad() {
        due("a new one", new SmallestSpeed().digest(), digestOf(0, 10, 0, 0, 0, 0, 0, 0, 1));
        due("sight 0", road(0, 0).digest(), digestOf(0, 0, 0, 0, 0, 0, 0, 0, 1));
    }

    @Edge(promise = 35, says = DIGEST)
    static void p35_digest_inItsOrder() {
        SmallestSpeed x = busy();
        due("digest", x.digest(), digestOf(3, 20, 2, 2, 2, 3, 26, 1, 4, 13, 1, 45, 0, 2, 30, 0, 55, 2, 6, 9, 3, 40, 5, 12,
                3, 4, 5, 6, 7, 8, x.part(0), x.part(1)));
        Check.that("a fraction of two unlike numbers", x.part(0) != x.part(1));
    }

    @Edge(promise = 35, says = DIGEST)
    static void p35_digest_whatItIsNotOf() {
        SmallestSpeed x = road(10, 0);
        x.child(0, 1, 2, 3, 4);
        SmallestSpeed y = road(10, 0);
        y.child(0, 1, 2, 3, 4);
        y.image(0);
        y.status(3);
        y.from(1);
        due("not of images and status", y.digest(), x.digest());
        x.stand(0, 5);
        y.stand(0, 5);
        x.bed(0, 6);
        y.stand(0, 5);
        y.bed(0, 6);
        y.undo();
        x.undo();
        y.bed(0, 4);
        x.stand(0, 5);
        x.bed(0, 4);
        due("not of what may be undone, but how much", y.digest(), x.digest());
        x.type('a');
        y.type('b');
        due("not of the bytes, but how many", y.digest(), x.digest());
    }

    /** By whole numbers without a bound, of which the lowest 64 bits are taken at the end. */
    @Edge(promise = 35, says = DIGEST)
    static void p35_digest_wrapsAround() {
        long[] values = new long[7 + 6 * 5 + 20 + 6 * 3 + 2];
        int n = 0;
        SmallestSpeed x = full();
        for (int what = 0; what <= 6; what++) {
            values[n++] = x.count(what);
        }
        for (int child = 0; child < 6; child++) {
            values[n++] = x.of(child, 0, 0);
            values[n++] = x.of(child, 0, 1);
            values[n++] = x.of(child, 0, 2);
            values[n++] = x.of(child, 0, 4);
            values[n++] = x.of(child, 0, 5);
        }
        for (int i = 0; i < 20; i++) {
            values[n++] = i % 16;
        }
        for (int i = 0; i < 6; i++) {
            values[n++] = i;
            values[n++] = i;
            values[n++] = i + 1;
        }
        values[n++] = x.part(0);
        values[n++] = x.part(1);
        BigInteger h = BigInteger.valueOf(977);
        for (long v : values) {
            h = h.multiply(BigInteger.valueOf(31)).add(BigInteger.valueOf(v));
        }
        Check.that("more than 64 bits", h.bitLength() > 64);
        due("all values", n, values.length);
        due("digest", x.digest(), h.longValue());
    }

    @Edge(promise = 35, says = DIGEST)
    static void p35_digest_changesNothing() {
        changesNothing(x -> x.digest());
        SmallestSpeed x = busy();
        due("the same again", x.digest(), x.digest());
        for (Call bad : BADS) {
            bad.of(x);
        }
        due("the same though much was refused", x.digest(), busy().digest());
    }
}
