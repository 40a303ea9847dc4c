/** Promises 1 to 7, sentence by sentence: a new object, the road, its children. */
final class RoadEdges extends Edges {
    // ---- 1: a new object

    @Edge(promise = 1, says = "As told; no CHILDREN")
    static void p01_newObject_noChildren() {
        SmallestSpeed x = new SmallestSpeed();
        counts(x, 0);
        due("no child 0", x.of(0, 0, 0), BAD);
        due("no child 0 stands", x.stand(0, 0), BAD);
        due("no child 0 goes to bed", x.bed(0, 0), BAD);
        due("nobody by law 0", x.limit(0, 0, 0), 9);
        due("nobody is the nearest", x.limit(0, 0, 1), NONE);
    }

    @Edge(promise = 1, says = "As told; no CHILDREN")
    static void p01_newObject_allElseIsEmpty() {
        SmallestSpeed x = new SmallestSpeed();
        counts(x, 0, 10, 0, 0, 0, 0, 0);
        due("no text", x.read(), -10);
        due("no speeds", x.stop(), 0);
        due("no readings", x.forget(), 0);
        due("no bytes", x.clear(), 0);
        status(x, 0, 0, 0);
        due("nothing to undo", x.undo(), NO);
        due("no image 0", x.from(0), NO);
        due("no image 1", x.from(1), NO);
        due("digest", x.digest(), digestOf(0, 10, 0, 0, 0, 0, 0, 0, 1));
    }

    @Edge(promise = 1, says = "As told; no CHILDREN")
    static void p01_newObject_sharesNothingWithAnother() {
        SmallestSpeed other = full();
        other.image(0);
        other.days(1, 4, 38);
        other.days(1, 0, 38);
        SmallestSpeed x = new SmallestSpeed();
        due("digest", x.digest(), digestOf(0, 10, 0, 0, 0, 0, 0, 0, 1));
        status(x, 0, 0, 0);
        due("no image", x.from(0), NO);
        long before = other.digest();
        x.road(3, 2);
        x.child(0, 1, 2, 3, 4);
        x.type('r');
        due("the other one stays", other.digest(), before);
    }

    @Edge(promise = 1, says = "SIGHT (0 .. 47 CELLS; 10 at first)")
    static void p01_newObject_sight10AtFirst() {
        SmallestSpeed x = new SmallestSpeed();
        due("SIGHT", x.count(1), 10);
        x.child(0, 4, 30, 0, 60);
        due("10 off, below", x.limit(20, 0, 0), 4);
        due("11 off, below", x.limit(19, 0, 0), 9);
        due("10 off, above", x.limit(40, 0, 0), 4);
        due("11 off, above", x.limit(41, 0, 0), 9);
    }

    @Edge(promise = 1, says = "LAW (0 .. 2; 0 at first)")
    static void p01_newObject_law0AtFirst() {
        SmallestSpeed x = new SmallestSpeed();
        due("LAW", x.count(2), 0);
        x.child(0, 8, 30, 0, 60);
        x.child(0, 2, 32, 0, 60);
        due("by the nearest, not the lowest, not the mean", x.limit(30, 0, 0), 8);
    }

    @Edge(promise = 1, says = "THE FRACTION is 0 by 1 at first")
    static void p01_newObject_fraction0By1() {
        fraction(new SmallestSpeed(), 0, 1);
    }

    @Edge(promise = 1, says = "An object is used for at most 512 calls after it has been made")
    static void p01_newObject_the512thCall() {
        SmallestSpeed x = new SmallestSpeed();
        for (int i = 1; i <= 510; i++) {
            x.rule(3);
        }
        due("the 511th call", x.status(0), 510);
        due("the 512th call", x.sight(47), 10);
    }

    // ---- 2: road

    @Edge(promise = 2, says = {"SIGHT (0 .. 47 CELLS; 10 at first)", "BAD"})
    static void p02_road_sight0To47() {
        due("SIGHT", taken(x -> x.road(0, 1), BUSY_CHILDREN).count(1), 0);
        due("SIGHT", taken(x -> x.road(47, 1), BUSY_CHILDREN).count(1), 47);
        beyond(0, 47, BAD, (x, n) -> x.road(n, 1));
    }

    @Edge(promise = 2, says = {"LAW (0 .. 2; 0 at first)", "BAD"})
    static void p02_road_law0To2() {
        due("LAW", taken(x -> x.road(5, 0), BUSY_CHILDREN).count(2), 0);
        due("LAW", taken(x -> x.road(5, 2), BUSY_CHILDREN).count(2), 2);
        beyond(0, 2, BAD, (x, n) -> x.road(5, n));
        refused(x -> x.road(48, 3), BAD);
    }

    @Edge(promise = 2, says = "how many CHILDREN there were")
    static void p02_road_howManyChildrenThereWere() {
        due("none", new SmallestSpeed().road(1, 1), 0);
        SmallestSpeed x = full();
        due("six", x.road(1, 1), 6);
        due("none then", x.road(1, 1), 0);
        x.child(0, 1, 1, 1, 1);
        due("one", x.road(1, 1), 1);
    }

    @Edge(promise = 2, says = "SIGHT, LAW, all else as at first (but for IMAGES, THE TEXT, THE FRACTION, STATUS)")
    static void p02_road_allElseAsAtFirst() {
        SmallestSpeed x = taken(y -> y.road(7, 1), BUSY_CHILDREN);
        counts(x, 0, 7, 1, 0, 0, 0, BUSY_BYTES);
        due("nothing to undo", x.undo(), NO);
        due("numbers from 0 again", x.child(0, 4, 5, 0, 60), 0);
        due("speeds from the first one again", x.speed(4), 1);
        due("readings from the first one again", x.reading(5, 0, 4), 1);
        due("the old readings are gone", x.out(0), 1);
        due("the old speeds are gone", x.fined(0, 0), NONE);
        SmallestSpeed y = full();
        y.road(47, 0);
        counts(y, 0, 47, 0, 0, 0, 0, 150);
    }

    @Edge(promise = 2, says = "SIGHT, LAW, all else as at first (but for IMAGES, THE TEXT, THE FRACTION, STATUS)")
    static void p02_road_butForImagesTextFractionStatus() {
        SmallestSpeed x = busy();
        long above = x.part(0);
        long below = x.part(1);
        x.road(7, 1);
        Check.that("the fraction was told", above != 0 && below != 1);
        fraction(x, above, below);
        status(x, 1, 1, 0);
        due("the text", x.read(), 2);
        due("image 0", x.from(0), 1);
        counts(x, 1, 20, 2, 0, 0, 1);
        due("image 1", x.from(1), 1);
        counts(x, 2, 20, 2, 1, 1, 0);
    }

    // ---- 3: rule

    @Edge(promise = 3, says = {"LAW (0 .. 2; 0 at first)", "BAD"})
    static void p03_rule_0To2() {
        due("LAW", taken(x -> x.rule(0), 2).count(2), 0);
        due("LAW", taken(x -> x.rule(1), 2).count(2), 1);
        due("LAW", taken(x -> x.rule(2), 2).count(2), 2);
        beyond(0, 2, BAD, (x, n) -> x.rule(n));
    }

    @Edge(promise = 3, says = "LAW: what it was")
    static void p03_rule_whatItWas() {
        SmallestSpeed x = new SmallestSpeed();
        due("at first", x.rule(2), 0);
        due("then", x.rule(2), 2);
        due("the same again", x.rule(1), 2);
        due("a refused one is not kept", x.rule(3), BAD);
        due("the one ahead of it", x.rule(0), 1);
    }

    @Edge(promise = 3, says = "LAW: what it was")
    static void p03_rule_nothingElse() {
        SmallestSpeed x = taken(y -> y.rule(0), 2);
        counts(x, BUSY_CHILDREN, 20, 0, BUSY_SPEEDS, BUSY_READINGS, BUSY_UNDOS, BUSY_BYTES);
        x.rule(2);
        due("all else as it was", x.digest(), busy().digest());
    }

    // ---- 4: sight

    @Edge(promise = 4, says = {"SIGHT (0 .. 47 CELLS; 10 at first)", "BAD"})
    static void p04_sight_0To47() {
        due("SIGHT", taken(x -> x.sight(0), 20).count(1), 0);
        due("SIGHT", taken(x -> x.sight(47), 20).count(1), 47);
        beyond(0, 47, BAD, (x, n) -> x.sight(n));
    }

    @Edge(promise = 4, says = "SIGHT: what it was")
    static void p04_sight_whatItWas() {
        SmallestSpeed x = new SmallestSpeed();
        due("at first", x.sight(47), 10);
        due("then", x.sight(0), 47);
        due("a refused one is not kept", x.sight(48), BAD);
        due("the one ahead of it", x.sight(10), 0);
    }

    @Edge(promise = 4, says = "SIGHT: what it was")
    static void p04_sight_nothingElse() {
        SmallestSpeed x = taken(y -> y.sight(3), 20);
        counts(x, BUSY_CHILDREN, 3, 2, BUSY_SPEEDS, BUSY_READINGS, BUSY_UNDOS, BUSY_BYTES);
        x.sight(20);
        due("all else as it was", x.digest(), busy().digest());
    }

    // ---- 5: child

    @Edge(promise = 5, says = {"CHILDREN 0 .. 5, as they come: a KIND", "BAD"})
    static void p05_child_kind0To5() {
        due("KIND", taken(x -> x.child(0, 5, 20, 1, 30), 3).of(3, 0, 0), 0);
        due("KIND", taken(x -> x.child(5, 5, 20, 1, 30), 3).of(3, 0, 0), 5);
        beyond(0, 5, BAD, (x, n) -> x.child(n, 5, 20, 1, 30));
    }

    @Edge(promise = 5, says = {"HEIGHT (1 .. 9)", "BAD"})
    static void p05_child_height1To9() {
        due("HEIGHT", taken(x -> x.child(0, 1, 20, 1, 30), 3).of(3, 0, 1), 1);
        due("HEIGHT", taken(x -> x.child(0, 9, 20, 1, 30), 3).of(3, 0, 1), 9);
        beyond(1, 9, BAD, (x, n) -> x.child(0, n, 20, 1, 30));
    }

    @Edge(promise = 5, says = {"CELLS 0 .. 47 of the road, one goes from 0 to 47", "BAD"})
    static void p05_child_cell0To47() {
        due("CELL", taken(x -> x.child(0, 5, 0, 1, 30), 3).of(3, 0, 2), 0);
        due("CELL", taken(x -> x.child(0, 5, 47, 1, 30), 3).of(3, 0, 2), 47);
        beyond(0, 47, BAD, (x, n) -> x.child(0, 5, n, 1, 30));
    }

    @Edge(promise = 5, says = {"STEPS (0 .. 3)", "BAD"})
    static void p05_child_steps0To3() {
        due("STEPS", taken(x -> x.child(0, 5, 20, 0, 30), 3).of(3, 0, 4), 0);
        due("STEPS", taken(x -> x.child(0, 5, 20, 3, 30), 3).of(3, 0, 4), 3);
        beyond(0, 3, BAD, (x, n) -> x.child(0, 5, 20, n, 30));
    }

    @Edge(promise = 5, says = {"BED (a MINUTE, 0 .. 60; out in all MINUTES ahead of it)", "BAD"})
    static void p05_child_bed0To60() {
        due("BED", taken(x -> x.child(0, 5, 20, 1, 0), 3).of(3, 0, 5), 0);
        due("BED", taken(x -> x.child(0, 5, 20, 1, 60), 3).of(3, 0, 5), 60);
        beyond(0, 60, BAD, (x, n) -> x.child(0, 5, 20, 1, n));
    }

    @Edge(promise = 5, says = {"CHILDREN 0 .. 5, as they come", "A CHILD: the number"})
    static void p05_child_numbers0To5() {
        SmallestSpeed x = new SmallestSpeed();
        for (int i = 0; i <= 5; i++) {
            due("the number", x.child(i, i + 1, i, 0, 60), i);
            due("how many", x.count(0), i + 1);
        }
        for (int i = 0; i <= 5; i++) {
            due("each is itself", x.of(i, 0, 0), i);
            due("each is as high", x.of(i, 0, 1), i + 1);
        }
    }

    @Edge(promise = 5, says = "FULL: 6")
    static void p05_child_full6() {
        SmallestSpeed x = road(10, 0);
        for (int i = 0; i < 5; i++) {
            x.child(0, 1, 1, 1, 1);
        }
        due("the 6th", x.child(0, 9, 47, 3, 60), 5);
        due("a 7th", x.child(0, 9, 47, 3, 60), FULL);
        counts(x, 6);
        refused(Edges::full, y -> y.child(0, 9, 47, 3, 60), FULL);
        x.road(10, 0);
        due("the first again", x.child(0, 1, 1, 1, 1), 0);
    }

    @Edge(promise = 5, says = "Refused, changing nothing but STATUS, the first of")
    static void p05_child_badAheadOfFull() {
        refused(Edges::full, x -> x.child(6, 1, 1, 1, 1), BAD);
        refused(Edges::full, x -> x.child(0, 0, 1, 1, 1), BAD);
        refused(Edges::full, x -> x.child(0, 1, 48, 1, 1), BAD);
        refused(Edges::full, x -> x.child(0, 1, 1, 4, 1), BAD);
        refused(Edges::full, x -> x.child(0, 1, 1, 1, 61), BAD);
    }

    // ---- 6: stand

    @Edge(promise = 6, says = {"CHILDREN 0 .. 5, as they come", "BAD"})
    static void p06_stand_childrenThatThereAre() {
        taken(x -> x.stand(0, 20), 13);
        taken(x -> x.stand(2, 20), 9);
        beyond(0, 2, BAD, (x, n) -> x.stand(n, 20));
        taken(Edges::full, x -> x.stand(5, 20), 5);
        beyond(Edges::full, 0, 5, BAD, (x, n) -> x.stand(n, 20));
        refused(SmallestSpeed::new, x -> x.stand(0, 20), BAD);
    }

    @Edge(promise = 6, says = {"CELLS 0 .. 47 of the road, one goes from 0 to 47", "BAD"})
    static void p06_stand_cell0To47() {
        due("CELL", taken(x -> x.stand(0, 0), 13).of(0, 0, 2), 0);
        due("CELL", taken(x -> x.stand(0, 47), 13).of(0, 0, 2), 47);
        beyond(0, 47, BAD, (x, n) -> x.stand(0, n));
    }

    @Edge(promise = 6, says = "The CELL in which a CHILD is at first: what it was")
    static void p06_stand_whatItWas() {
        SmallestSpeed x = road(10, 0);
        x.child(0, 5, 20, 3, 60);
        due("as it came", x.stand(0, 0), 20);
        due("as told then", x.stand(0, 47), 0);
        due("a refused one is not kept", x.stand(0, 48), BAD);
        due("the one ahead of it", x.stand(0, 7), 47);
        due("at first", x.of(0, 0, 2), 7);
        due("three steps on", x.of(0, 1, 2), 10);
    }

    @Edge(promise = 6, says = "The CELL in which a CHILD is at first: what it was")
    static void p06_stand_nothingElse() {
        SmallestSpeed x = taken(y -> y.stand(1, 20), 30);
        counts(x, BUSY_CHILDREN, 20, 2, BUSY_SPEEDS, BUSY_READINGS, BUSY_UNDOS + 1, BUSY_BYTES);
        x.undo();
        due("all else as it was", x.digest(), busy().digest());
    }

    // ---- 7: bed

    @Edge(promise = 7, says = {"CHILDREN 0 .. 5, as they come", "BAD"})
    static void p07_bed_childrenThatThereAre() {
        taken(x -> x.bed(0, 20), 45);
        taken(x -> x.bed(2, 20), 40);
        beyond(0, 2, BAD, (x, n) -> x.bed(n, 20));
        taken(Edges::full, x -> x.bed(5, 20), 55);
        beyond(Edges::full, 0, 5, BAD, (x, n) -> x.bed(n, 20));
        refused(SmallestSpeed::new, x -> x.bed(0, 20), BAD);
    }

    @Edge(promise = 7, says = {"BED (a MINUTE, 0 .. 60; out in all MINUTES ahead of it)", "BAD"})
    static void p07_bed_0To60() {
        due("BED", taken(x -> x.bed(0, 0), 45).of(0, 0, 5), 0);
        due("BED", taken(x -> x.bed(0, 60), 45).of(0, 0, 5), 60);
        beyond(0, 60, BAD, (x, n) -> x.bed(0, n));
    }

    @Edge(promise = 7, says = "BED (a MINUTE, 0 .. 60; out in all MINUTES ahead of it)")
    static void p07_bed_outAheadOfIt() {
        SmallestSpeed x = road(10, 0);
        x.child(0, 5, 20, 0, 30);
        int[] beds = {0, 1, 30, 59, 60};
        for (int bed : beds) {
            x.bed(0, bed);
            if (bed > 0) {
                due("out in the first minute", x.limit(20, 0, 0), 5);
                due("out in the one ahead", x.limit(20, bed - 1, 0), 5);
                due("counts in the one ahead", x.of(0, bed - 1, 3), 5);
            }
            if (bed < 60) {
                due("not out in it", x.limit(20, bed, 0), 9);
                due("counts no more in it", x.of(0, bed, 3), 0);
                due("not out in the last one", x.limit(20, 59, 0), 9);
            }
        }
    }

    @Edge(promise = 7, says = "BED: what it was")
    static void p07_bed_whatItWas() {
        SmallestSpeed x = road(10, 0);
        x.child(0, 5, 20, 3, 50);
        due("as it came", x.bed(0, 0), 50);
        due("as told then", x.bed(0, 60), 0);
        due("a refused one is not kept", x.bed(0, 61), BAD);
        due("the one ahead of it", x.bed(0, 7), 60);
        due("the newest", x.of(0, 0, 5), 7);
    }

    @Edge(promise = 7, says = "BED: what it was")
    static void p07_bed_nothingElse() {
        SmallestSpeed x = taken(y -> y.bed(1, 20), 55);
        counts(x, BUSY_CHILDREN, 20, 2, BUSY_SPEEDS, BUSY_READINGS, BUSY_UNDOS + 1, BUSY_BYTES);
        x.undo();
        due("all else as it was", x.digest(), busy().digest());
    }
}
