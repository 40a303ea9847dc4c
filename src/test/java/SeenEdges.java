import java.util.function.Supplier;

/** Promises 24 to 29, sentence by sentence: readings, who was out, the next look, dolls, days. */
final class SeenEdges extends Edges {
    private static final String READING = "READINGS 0 .. 5, as they come: the LIMIT in a CELL, a MINUTE was v (1 .. 9)";
    private static final String SETS = "sets of CHILDREN (bits; those in bed, DOLLS that count no more, no matter) who were on the road "
            + "at all, by which all READINGS are so";
    private static final String OUT = "OUT: how many sets (0), who is in all of them (1; bits; NONE)";
    private static final String LOOK = "LOOK in a MINUTE: the CELL by which the most of these sets that have like LIMITS are fewest; of "
            + "like ones the first; none: no set";
    private static final String DOLLS = "DOLLS: CHILDREN (bits) each of whom, were it alone a DOLL in place of its KIND, makes all "
            + "READINGS so";
    private static final String DRAW = "X is SEED at first; in each DAY, for each CHILD in order, X becomes X times 1103515245 and 12345, "
            + "by 2147483648 what is left over; X by 65536 (cut), by 100 left over, less than w: it is sick in bed";
    private static final String MEAN = "MINUTES in which a DRIVE from MINUTE 0 on is THERE (none: 61), in the mean: THE FRACTION (NO: n 0)";

    /** Children, 1 to 6 of them, who stand in cells 0, 1, .. and are seen there alone; as high as their number and 3. */
    private static SmallestSpeed eachInItsCell(int children) {
        SmallestSpeed x = road(0, 0);
        for (int i = 0; i < children; i++) {
            x.child(0, i + 3, i, 0, 60);
        }
        return x;
    }

    private static SmallestSpeed read(SmallestSpeed x, int... cellsMinutesLimits) {
        for (int i = 0; i + 2 < cellsMinutesLimits.length; i += 3) {
            x.reading(cellsMinutesLimits[i], cellsMinutesLimits[i + 1], cellsMinutesLimits[i + 2]);
        }
        return x;
    }

    private static void sets(SmallestSpeed x, int many, int inAll) {
        due("out(0)", x.out(0), many);
        due("out(1)", x.out(1), inAll);
    }

    private static void mean(SmallestSpeed x, int seed, int n, int w, long above, long below) {
        due("days(" + seed + ", " + n + ", " + w + ")", x.days(seed, n, w), 1);
        fraction(x, above, below);
    }

    // ---- 24: reading

    @Edge(promise = 24, says = {"CELLS 0 .. 47 of the road, one goes from 0 to 47", "BAD"})
    static void p24_reading_cells0To47() {
        taken(x -> x.reading(0, 30, 5), BUSY_READINGS + 1);
        taken(x -> x.reading(47, 30, 5), BUSY_READINGS + 1);
        beyond(0, 47, BAD, (x, n) -> x.reading(n, 30, 5));
    }

    @Edge(promise = 24, says = {"MINUTES 0 .. 59", "BAD"})
    static void p24_reading_minutes0To59() {
        taken(x -> x.reading(20, 0, 5), BUSY_READINGS + 1);
        taken(x -> x.reading(20, 59, 5), BUSY_READINGS + 1);
        beyond(0, 59, BAD, (x, n) -> x.reading(20, n, 5));
    }

    @Edge(promise = 24, says = {READING, "BAD"})
    static void p24_reading_v1To9() {
        taken(x -> x.reading(20, 30, 1), BUSY_READINGS + 1);
        taken(x -> x.reading(20, 30, 9), BUSY_READINGS + 1);
        beyond(1, 9, BAD, (x, n) -> x.reading(20, 30, n));
    }

    @Edge(promise = 24, says = {READING, "FULL: 6"})
    static void p24_reading_full6() {
        SmallestSpeed x = new SmallestSpeed();
        for (int i = 1; i <= 5; i++) {
            due("how many", x.reading(i, i, i), i);
        }
        due("the 6th", x.reading(6, 6, 6), 6);
        due("a 7th", x.reading(7, 7, 7), FULL);
        counts(x, 0, 10, 0, 0, 6);
        refused(Edges::full, y -> y.reading(0, 0, 1), FULL);
        refused(Edges::full, y -> y.reading(47, 59, 9), FULL);
        x.forget();
        due("the first again", x.reading(7, 7, 7), 1);
    }

    @Edge(promise = 24, says = "Refused, changing nothing but STATUS, the first of")
    static void p24_reading_badAheadOfFull() {
        refused(Edges::full, x -> x.reading(48, 0, 1), BAD);
        refused(Edges::full, x -> x.reading(0, 60, 1), BAD);
        refused(Edges::full, x -> x.reading(0, 0, 10), BAD);
        refused(Edges::full, x -> x.reading(0, 0, 0), BAD);
    }

    @Edge(promise = 24, says = {"A READING: how many there are", READING})
    static void p24_reading_asTheyCome() {
        SmallestSpeed x = read(new SmallestSpeed(), 47, 59, 9, 0, 0, 1, 47, 59, 9);
        due("one like another is one more", x.count(4), 3);
        due("digest", x.digest(), digestOf(0, 10, 0, 0, 3, 0, 0, 47, 59, 9, 0, 0, 1, 47, 59, 9, 0, 1));
        SmallestSpeed y = taken(z -> z.reading(1, 2, 3), BUSY_READINGS + 1);
        counts(y, BUSY_CHILDREN, 20, 2, BUSY_SPEEDS, BUSY_READINGS + 1, BUSY_UNDOS, BUSY_BYTES);
        y.forget();
        read(y, 3, 4, 5, 6, 7, 8);
        due("all else as it was", y.digest(), busy().digest());
    }

    @Edge(promise = 24, says = READING)
    static void p24_reading_thoughItCannotBe() {
        SmallestSpeed x = read(new SmallestSpeed(), 5, 5, 1);
        due("nobody, yet 1", x.reading(5, 5, 2), 2);
        status(x, 0, 0, 0);
        sets(x, 0, NONE);
    }

    // ---- 25: forget

    @Edge(promise = 25, says = "No READINGS: how many there were")
    static void p25_forget_howManyThereWere() {
        taken(SmallestSpeed::new, x -> x.forget(), 0);
        taken(Edges::full, x -> x.forget(), 6);
        SmallestSpeed x = read(new SmallestSpeed(), 1, 1, 1);
        due("one", x.forget(), 1);
        due("none then", x.forget(), 0);
    }

    @Edge(promise = 25, says = "No READINGS: how many there were")
    static void p25_forget_noReadings() {
        SmallestSpeed x = taken(y -> y.forget(), BUSY_READINGS);
        counts(x, BUSY_CHILDREN, 20, 2, BUSY_SPEEDS, 0, BUSY_UNDOS, BUSY_BYTES);
        sets(x, 8, 0);
        due("any child", x.dolls(), 7);
        read(x, 3, 4, 5, 6, 7, 8);
        due("all else as it was", x.digest(), busy().digest());
    }

    // ---- 26: out

    @Edge(promise = 26, says = {OUT, "BAD: -10"})
    static void p26_out_what0And1() {
        taken(SmallestSpeed::new, x -> x.out(0), 1);
        taken(SmallestSpeed::new, x -> x.out(1), 0);
        beyond(0, 1, MINUS_TEN, (x, n) -> x.out(n));
        beyond(SmallestSpeed::new, 0, 1, MINUS_TEN, (x, n) -> x.out(n));
    }

    @Edge(promise = 26, says = {SETS, "(Nothing is changed by these.)"})
    static void p26_out_nothingIsChanged() {
        changesNothing(x -> x.out(0));
        changesNothing(x -> x.out(1));
    }

    @Edge(promise = 26, says = SETS)
    static void p26_out_nobodyThere() {
        sets(new SmallestSpeed(), 1, 0);
        sets(read(new SmallestSpeed(), 0, 0, 9, 47, 59, 9), 1, 0);
        sets(read(new SmallestSpeed(), 0, 0, 8), 0, NONE);
    }

    @Edge(promise = 26, says = SETS)
    static void p26_out_noReadings() {
        int[] many = {1, 2, 4, 8, 16, 32, 64};
        for (int children = 0; children <= 6; children++) {
            sets(eachInItsCell(children), many[children], 0);
        }
    }

    @Edge(promise = 26, says = {"none: no set", OUT})
    static void p26_out_noSet() {
        sets(read(eachInItsCell(1), 0, 0, 4), 0, NONE);
        sets(read(eachInItsCell(6), 0, 0, 3, 0, 0, 9), 0, NONE);
        sets(read(eachInItsCell(6), 6, 0, 8), 0, NONE);
    }

    @Edge(promise = 26, says = "who is in all of them (bits; none: no set)")
    static void p26_out_whoIsInAll() {
        sets(read(eachInItsCell(6), 0, 0, 3), 32, 1);
        sets(read(eachInItsCell(6), 5, 59, 8), 32, 32);
        sets(read(eachInItsCell(6), 0, 0, 3, 1, 0, 9), 16, 1);
        sets(read(eachInItsCell(6), 0, 0, 3, 1, 0, 4, 2, 0, 5, 3, 0, 6, 4, 0, 7, 5, 0, 8), 1, 63);
        sets(read(eachInItsCell(6), 0, 0, 9, 1, 0, 9, 2, 0, 9, 3, 0, 9, 4, 0, 9, 5, 0, 9), 1, 0);
        SmallestSpeed x = road(10, 0);
        x.child(0, 3, 20, 0, 60);
        x.child(0, 3, 20, 0, 60);
        sets(read(x, 20, 0, 3), 3, 0);
    }

    @Edge(promise = 26, says = "by which all READINGS are so")
    static void p26_out_allReadings() {
        sets(read(eachInItsCell(2), 0, 0, 3, 0, 0, 3, 0, 0, 3, 0, 0, 3, 0, 0, 3), 2, 1);
        sets(read(eachInItsCell(2), 0, 0, 3, 0, 0, 3, 0, 0, 3, 0, 0, 3, 0, 0, 3, 1, 0, 9), 1, 1);
        sets(read(eachInItsCell(2), 0, 0, 4, 0, 0, 3, 0, 0, 3), 0, NONE);
        sets(read(eachInItsCell(2), 0, 0, 3, 0, 0, 3, 0, 0, 4), 0, NONE);
    }

    @Edge(promise = 26, says = "those in bed, DOLLS that count no more, no matter")
    static void p26_out_thoseInBedNoMatter() {
        SmallestSpeed x = road(10, 0);
        x.child(0, 3, 20, 0, 30);
        sets(read(x, 20, 30, 9), 2, 0);
        sets(read(x, 20, 29, 3), 1, 1);
        SmallestSpeed doll = road(10, 0);
        doll.child(5, 3, 20, 0, 60);
        sets(read(doll, 20, 20, 9), 2, 0);
        sets(read(doll, 20, 19, 9), 1, 0);
        SmallestSpeed never = road(10, 0);
        never.child(0, 3, 20, 0, 0);
        never.child(0, 4, 20, 0, 60);
        sets(read(never, 20, 0, 4), 2, 2);
    }

    @Edge(promise = 26, says = SETS)
    static void p26_out_byEachLaw() {
        for (int law = 0; law <= 2; law++) {
            SmallestSpeed x = road(10, law);
            x.child(0, 3, 20, 0, 60);
            x.child(0, 4, 20, 0, 60);
            x.child(0, 5, 20, 0, 60);
            sets(read(x, 20, 0, 4), law == 2 ? 3 : 2, law == 2 ? 0 : 2);
            SmallestSpeed y = road(10, law);
            y.child(0, 5, 20, 0, 60);
            y.child(0, 3, 25, 0, 60);
            sets(read(y, 20, 0, 5), law == 0 ? 2 : 1, 1);
        }
    }

    // ---- 27: look

    @Edge(promise = 27, says = {"MINUTES 0 .. 59", "BAD"})
    static void p27_look_minutes0To59() {
        Supplier<SmallestSpeed> walker = () -> {
            SmallestSpeed x = road(0, 0);
            x.child(0, 3, 10, 3, 60);
            return x;
        };
        taken(walker, x -> x.look(0), 10);
        taken(walker, x -> x.look(1), 13);
        taken(walker, x -> x.look(12), 46);
        taken(walker, x -> x.look(59), 47);
        beyond(0, 59, BAD, (x, n) -> x.look(n));
        beyond(walker, 0, 59, BAD, (x, n) -> x.look(n));
    }

    @Edge(promise = 27, says = "(Nothing is changed by these.)")
    static void p27_look_nothingIsChanged() {
        changesNothing(x -> x.look(0));
        changesNothing(x -> x.look(59));
        changesNothing(() -> eachInItsCell(6), x -> x.look(30));
    }

    @Edge(promise = 27, says = "of like ones the first")
    static void p27_look_ofLikeOnesTheFirst() {
        due("the empty set alone", new SmallestSpeed().look(0), 0);
        due("one set alone", read(eachInItsCell(2), 0, 0, 3, 1, 0, 4).look(0), 0);
        due("each of six cells by halves", eachInItsCell(6).look(0), 0);
        SmallestSpeed x = road(5, 0);
        x.child(0, 3, 20, 0, 60);
        due("15 to 25 are alike", x.look(0), 15);
        x.stand(0, 5);
        due("0 to 10 are alike", x.look(0), 0);
        x.stand(0, 6);
        due("1 to 11 are alike", x.look(0), 1);
        x.stand(0, 47);
        due("42 to 47 are alike", x.look(0), 42);
    }

    @Edge(promise = 27, says = {"none: no set", "NONE"})
    static void p27_look_noSet() {
        taken(() -> read(new SmallestSpeed(), 0, 0, 8), x -> x.look(0), NONE);
        taken(() -> read(eachInItsCell(6), 0, 0, 4), x -> x.look(59), NONE);
        taken(() -> read(eachInItsCell(6), 0, 0, 3), x -> x.look(59), 1);
    }

    @Edge(promise = 27, says = "CELLS 0 .. 47 of the road, one goes from 0 to 47")
    static void p27_look_fromCell0To47() {
        SmallestSpeed first = road(0, 0);
        first.child(0, 3, 0, 0, 60);
        first.child(0, 9, 47, 0, 60);
        due("0", first.look(0), 0);
        SmallestSpeed last = road(0, 0);
        last.child(0, 9, 0, 0, 60);
        last.child(0, 3, 47, 0, 60);
        due("47", last.look(0), 47);
        SmallestSpeed both = road(47, 0);
        both.child(0, 3, 0, 0, 60);
        both.child(0, 3, 47, 0, 60);
        due("all see both, and none but these is looked at", both.look(0), 0);
    }

    @Edge(promise = 27, says = LOOK)
    static void p27_look_of64Sets() {
        SmallestSpeed x = road(0, 2);
        x.child(0, 3, 0, 0, 60);
        x.child(0, 9, 10, 0, 60);
        x.child(0, 5, 10, 0, 60);
        for (int i = 0; i < 3; i++) {
            x.child(0, 1, 20, 0, 0);
        }
        due("32 and 32 in 0, 32, 16 and 16 in 10", x.look(0), 0);
        x.stand(0, 30);
        due("32, 16 and 16 in 10, 32 and 32 in 30", x.look(0), 10);
    }

    @Edge(promise = 27, says = LOOK)
    static void p27_look_theMostAreFewest() {
        SmallestSpeed x = road(0, 0);
        x.child(0, 3, 10, 0, 60);
        x.child(0, 3, 10, 0, 60);
        x.child(0, 4, 20, 0, 60);
        due("6 and 2 in 10, 4 and 4 in 20", x.look(0), 20);
        SmallestSpeed y = road(5, 2);
        y.child(0, 3, 20, 0, 30);
        y.child(0, 5, 30, 0, 60);
        due("9, 3, 5, 4 in 25", y.look(0), 25);
        y.rule(0);
        due("9, 3, 5, 3 in 25, two and two in 15", y.look(0), 15);
        SmallestSpeed z = road(0, 0);
        z.child(0, 9, 20, 0, 60);
        due("9 is as if nobody were there", z.look(0), 0);
        z.child(0, 8, 30, 0, 60);
        due("8 is not", z.look(0), 30);
    }

    @Edge(promise = 27, says = LOOK)
    static void p27_look_byTheseSetsAlone() {
        SmallestSpeed x = eachInItsCell(3);
        due("each may be", x.look(0), 0);
        due("0 is told", read(x, 0, 0, 3).look(0), 1);
        due("1 is told, too", read(x, 1, 0, 9).look(0), 2);
        due("all are told", read(x, 2, 0, 5).look(0), 0);
    }

    @Edge(promise = 27, says = "those in bed, DOLLS that count no more, no matter")
    static void p27_look_thoseInBedNoMatter() {
        SmallestSpeed x = road(0, 0);
        x.child(0, 3, 20, 0, 30);
        x.child(5, 3, 10, 0, 60);
        due("the doll", x.look(19), 10);
        due("the doll no more", x.look(20), 20);
        due("she yet", x.look(29), 20);
        due("nor she", x.look(30), 0);
    }

    // ---- 28: dolls

    @Edge(promise = 28, says = {"DOLLS, as bits", "(Nothing is changed by these.)"})
    static void p28_dolls_nothingIsChanged() {
        changesNothing(x -> x.dolls());
        changesNothing(() -> eachInItsCell(6), x -> x.dolls());
    }

    @Edge(promise = 28, says = {"DOLLS, as bits", DOLLS})
    static void p28_dolls_noReadings() {
        for (int children = 0; children <= 6; children++) {
            due("any of " + children, eachInItsCell(children).dolls(), (1 << children) - 1);
        }
    }

    @Edge(promise = 28, says = {"DOLLS, as bits", DOLLS})
    static void p28_dolls_nobodyThere() {
        due("nobody", read(new SmallestSpeed(), 0, 0, 9).dolls(), 0);
        due("nobody", read(new SmallestSpeed(), 0, 0, 1).dolls(), 0);
    }

    @Edge(promise = 28, says = {"DOLLS, as bits", DOLLS})
    static void p28_dolls_asBits() {
        for (int i = 0; i < 6; i++) {
            due("she who counts no more", read(eachInItsCell(6), i, 20, 9).dolls(), 1 << i);
            due("all but she who counts yet", read(eachInItsCell(6), i, 20, i + 3).dolls(), 63 - (1 << i));
        }
    }

    @Edge(promise = 28, says = "then it counts no more at all (as if in bed)")
    static void p28_dolls_fromMinute20On() {
        due("she counts in 19", read(eachInItsCell(1), 0, 19, 3).dolls(), 1);
        due("not 9 in 19", read(eachInItsCell(1), 0, 19, 9).dolls(), 0);
        due("9 in 20", read(eachInItsCell(1), 0, 20, 9).dolls(), 1);
        due("she does not count in 20", read(eachInItsCell(1), 0, 20, 3).dolls(), 0);
        due("9 in 59", read(eachInItsCell(1), 0, 59, 9).dolls(), 1);
    }

    @Edge(promise = 28, says = "makes all READINGS so")
    static void p28_dolls_allReadings() {
        due("five", read(eachInItsCell(2), 0, 20, 9, 0, 20, 9, 0, 20, 9, 0, 20, 9, 0, 20, 9).dolls(), 1);
        due("the sixth", read(eachInItsCell(2), 0, 20, 9, 0, 20, 9, 0, 20, 9, 0, 20, 9, 0, 20, 9, 1, 0, 9).dolls(), 0);
        due("the first", read(eachInItsCell(2), 1, 0, 9, 0, 20, 9).dolls(), 0);
    }

    @Edge(promise = 28, says = "were it alone a DOLL in place of its KIND")
    static void p28_dolls_alone() {
        due("not both", read(eachInItsCell(2), 0, 20, 9, 1, 20, 9).dolls(), 0);
        SmallestSpeed x = eachInItsCell(2);
        x.child(5, 3, 40, 0, 60);
        due("who is one stays one", read(x, 0, 20, 9, 40, 20, 9).dolls(), 1);
        due("and counts ahead of 20", read(x, 0, 0, 3, 40, 19, 3).dolls(), 1);
        SmallestSpeed y = road(0, 0);
        y.child(5, 3, 40, 0, 60);
        y.child(0, 3, 0, 0, 60);
        due("both", read(y, 40, 19, 3, 40, 20, 9).dolls(), 3);
        due("who is one alone", read(y, 0, 20, 3).dolls(), 1);
    }

    @Edge(promise = 28, says = "were it alone a DOLL in place of its KIND")
    static void p28_dolls_inPlaceOfItsKind() {
        int[] kinds = {0, 1, 2, 3, 4, 5};
        int[] highIn15 = {4, 6, 4, 3, 5, 4};
        for (int kind : kinds) {
            SmallestSpeed x = road(0, 0);
            x.child(kind, 4, 10, 0, 60);
            due("as it is", x.limit(10, 15, 0), highIn15[kind]);
            due("as a doll it is as high as it is", read(x, 10, 15, 4).dolls(), 1);
            SmallestSpeed y = road(0, 0);
            y.child(kind, 4, 10, 3, 60);
            due("as a doll it goes as a player", read(y, 13, 15, 4, 10, 16, 4).dolls(), 1);
        }
    }

    // ---- 29: days

    @Edge(promise = 29, says = {"DAYS by a SEED (0 .. 999999), n (0 .. 30), w (0 .. 100)", "BAD; NO"})
    static void p29_days_seed0To999999() {
        taken(x -> x.days(0, 4, 38), 1);
        taken(x -> x.days(999999, 4, 38), 1);
        beyond(0, 999999, BAD, (x, n) -> x.days(n, 4, 38));
        mean(slow(1), 0, 1, 0, 47, 1);
        mean(slow(1), 0, 1, 1, 6, 1);
        mean(slow(1), 999999, 1, 28, 47, 1);
        mean(slow(1), 999999, 1, 29, 6, 1);
    }

    @Edge(promise = 29, says = {"DAYS by a SEED (0 .. 999999), n (0 .. 30), w (0 .. 100)", "BAD; NO"})
    static void p29_days_n0To30() {
        taken(x -> x.days(1, 1, 38), 1);
        taken(x -> x.days(1, 30, 38), 1);
        beyond(0, 30, BAD, (x, n) -> x.days(1, n, 38));
        mean(slow(1), 1, 1, 50, 6, 1);
        mean(slow(1), 1, 2, 50, 53, 2);
        mean(slow(1), 1, 30, 50, 53, 2);
        mean(slow(1), 1, 30, 100, 6, 1);
        mean(slow(1), 1, 30, 0, 47, 1);
    }

    @Edge(promise = 29, says = {"DAYS by a SEED (0 .. 999999), n (0 .. 30), w (0 .. 100)", "BAD; NO"})
    static void p29_days_w0To100() {
        taken(x -> x.days(1, 4, 0), 1);
        taken(x -> x.days(1, 4, 100), 1);
        beyond(0, 100, BAD, (x, n) -> x.days(1, 4, n));
    }

    @Edge(promise = 29, says = {"THE FRACTION (NO: n 0)", "BAD; NO"})
    static void p29_days_noDays() {
        refused(x -> x.days(1, 0, 38), NO);
        refused(SmallestSpeed::new, x -> x.days(0, 0, 0), NO);
        refused(Edges::full, x -> x.days(999999, 0, 100), NO);
        SmallestSpeed x = slow(1);
        mean(x, 1, 2, 50, 53, 2);
        due("no days", x.days(1, 0, 50), NO);
        fraction(x, 53, 2);
    }

    @Edge(promise = 29, says = "Refused, changing nothing but STATUS, the first of")
    static void p29_days_badAheadOfNo() {
        refused(x -> x.days(-1, 0, 38), BAD);
        refused(x -> x.days(1000000, 0, 38), BAD);
        refused(x -> x.days(1, 0, -1), BAD);
        refused(x -> x.days(1, 0, 101), BAD);
    }

    @Edge(promise = 29, says = {DRAW, "DAYS is THE FRACTION: 1"})
    static void p29_days_lessThanW() {
        mean(slow(1), 1, 1, 38, 47, 1);
        mean(slow(1), 1, 1, 39, 6, 1);
        mean(slow(1), 0, 1, 0, 47, 1);
        mean(slow(1), 0, 1, 1, 6, 1);
        mean(slow(1), 194, 1, 99, 47, 1);
        mean(slow(1), 194, 1, 100, 6, 1);
    }

    /** By seed 42627 the first X is 65536 times a number, by seed 47902 it is one less than such a one. */
    @Edge(promise = 29, says = "X by 65536 (cut), by 100 left over, less than w: it is sick in bed")
    static void p29_days_by65536Cut() {
        mean(slow(1), 42627, 1, 13, 47, 1);
        mean(slow(1), 42627, 1, 14, 6, 1);
        mean(slow(1), 47902, 1, 30, 47, 1);
        mean(slow(1), 47902, 1, 31, 6, 1);
        mean(slow(1), 173699, 1, 99, 47, 1);
        mean(slow(1), 173699, 1, 100, 6, 1);
        mean(slow(1), 178974, 1, 16, 47, 1);
        mean(slow(1), 178974, 1, 17, 6, 1);
    }

    @Edge(promise = 29, says = DRAW)
    static void p29_days_eachDayEachChildInOrder() {
        SmallestSpeed x = road(47, 1);
        x.child(0, 1, 0, 0, 60);
        x.child(0, 2, 0, 0, 60);
        x.child(0, 3, 0, 0, 60);
        mean(x, 1, 1, 38, 47, 1);
        mean(x, 1, 1, 39, 24, 1);
        mean(x, 1, 1, 58, 24, 1);
        mean(x, 1, 1, 59, 6, 1);
        mean(x, 1, 1, 14, 47, 1);
        mean(x, 1, 2, 39, 24, 1);
        mean(x, 1, 2, 52, (24 + 6) / 2, 1);
        mean(x, 1, 2, 28, 47 + 24, 2);
        mean(x, 1, 2, 16, 71, 2);
        mean(x, 1, 2, 15, 47, 1);
    }

    @Edge(promise = 29, says = DRAW)
    static void p29_days_nobodyThere() {
        mean(new SmallestSpeed(), 5, 1, 50, 6, 1);
        mean(new SmallestSpeed(), 5, 30, 100, 6, 1);
    }

    @Edge(promise = 29, says = DRAW)
    static void p29_days_sickInBedThatDayAlone() {
        SmallestSpeed x = slow(1);
        mean(x, 1, 2, 50, 6 + 47, 2);
        mean(x, 1, 6, 50, (4 * 6 + 2 * 47) / 2, 3);
    }

    @Edge(promise = 29, says = {MEAN, "lowest terms, below above 0"})
    static void p29_days_inTheMean() {
        SmallestSpeed x = slow(1);
        mean(x, 1, 3, 50, 6 + 47 + 6, 3);
        mean(x, 1, 4, 39, 6 + 47 + 6 + 6, 4);
        mean(x, 1, 4, 38, 53, 2);
        mean(x, 1, 5, 16, 3 * 47 + 2 * 6, 5);
        mean(x, 1, 10, 20, 53, 2);
    }

    /** The limit is 1 at least, so that a drive from minute 0 on is there in minute 47 at last, and 61 never comes. */
    @Edge(promise = 29, says = MEAN)
    static void p29_days_thereIn47AtLast() {
        mean(slow(1), 1, 30, 0, 47, 1);
        SmallestSpeed x = slow(1);
        x.sight(0);
        mean(x, 1, 30, 0, 7, 1);
    }

    @Edge(promise = 29, says = "DAYS is THE FRACTION: 1")
    static void p29_days_nothingElse() {
        SmallestSpeed x = taken(y -> y.days(1, 3, 100), 1);
        fraction(x, 6, 1);
        due("nobody is sick in bed any more", x.of(0, 0, 5), 45);
        x.days(1, 4, 38);
        due("all else as it was", x.digest(), busy().digest());
    }
}
