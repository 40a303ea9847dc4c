/** Promise 12, sentence by sentence: what is told of a child, by its kind. */
final class KindEdges extends Edges {
    private static final int WALKER = 0;
    private static final int HELD = 1;
    private static final int PLAYER = 2;
    private static final int TWIN = 3;
    private static final int GROWS = 4;
    private static final int DOLL = 5;

    private static SmallestSpeed one(int kind, int height, int cell, int steps) {
        SmallestSpeed x = road(10, 0);
        x.child(kind, height, cell, steps, 60);
        return x;
    }

    private static void cells(int kind, int cell, int steps, int[] minutes, int... wants) {
        SmallestSpeed x = one(kind, 5, cell, steps);
        for (int i = 0; i < minutes.length; i++) {
            due(cell + " and " + steps + " in minute " + minutes[i], x.of(0, minutes[i], 2), wants[i]);
        }
    }

    /** How high heights 1 to 9 count in a minute. */
    private static void highs(int kind, int minute, int... wants) {
        for (int height = 1; height <= 9; height++) {
            due("height " + height + " in minute " + minute, one(kind, height, 20, 1).of(0, minute, 3), wants[height - 1]);
        }
    }

    @Edge(promise = 12, says = {"CHILDREN 0 .. 5, as they come", "BAD"})
    static void p12_of_childrenThatThereAre() {
        taken(x -> x.of(0, 0, 0), 1);
        taken(x -> x.of(2, 0, 0), 2);
        beyond(0, 2, BAD, (x, n) -> x.of(n, 0, 0));
        taken(Edges::full, x -> x.of(5, 0, 0), 5);
        beyond(Edges::full, 0, 5, BAD, (x, n) -> x.of(n, 0, 0));
        refused(SmallestSpeed::new, x -> x.of(0, 0, 0), BAD);
    }

    @Edge(promise = 12, says = {"MINUTES 0 .. 59", "BAD"})
    static void p12_of_minutes0To59() {
        taken(x -> x.of(0, 0, 2), 13);
        taken(x -> x.of(0, 59, 2), 47);
        beyond(0, 59, BAD, (x, n) -> x.of(0, n, 2));
    }

    @Edge(promise = 12, says = {"Of a CHILD in a MINUTE: KIND (0), HEIGHT (1), its CELL then (2), how high it counts "
            + "(3; 0: it is not out, counts no more), STEPS (4), BED (5)", "BAD"})
    static void p12_of_what0To5() {
        int[] wants = {1, 4, 13 + 7, 6, 1, 45};
        for (int what = 0; what <= 5; what++) {
            int asked = what;
            taken(x -> x.of(0, 7, asked), wants[what]);
            changesNothing(Edges::busy, x -> x.of(2, 7, asked));
            changesNothing(Edges::withImages, x -> x.of(5, 7, asked));
        }
        beyond(0, 5, BAD, (x, n) -> x.of(0, 7, n));
    }

    @Edge(promise = 12, says = "its CELL then (2)")
    static void p12_of_itsCellThenThoughInBed() {
        SmallestSpeed x = road(10, 0);
        x.child(WALKER, 5, 3, 1, 0);
        x.child(DOLL, 5, 3, 2, 20);
        due("a walker in bed", x.of(0, 9, 2), 12);
        due("a doll that counts no more, odd", x.of(1, 21, 2), 5);
        due("a doll that counts no more, even", x.of(1, 22, 2), 3);
    }

    @Edge(promise = 12, says = "3; 0: it is not out, counts no more")
    static void p12_of_0ItIsNotOut() {
        for (int kind = WALKER; kind <= DOLL; kind++) {
            SmallestSpeed x = road(10, 0);
            x.child(kind, 9, 20, 1, 10);
            Check.that("out ahead of bed", x.of(0, 9, 3) > 0);
            due("in bed, kind " + kind, x.of(0, 10, 3), 0);
            due("in bed, kind " + kind, x.of(0, 59, 3), 0);
            due("its height is the same", x.of(0, 10, 1), 9);
            x.bed(0, 0);
            due("never out, kind " + kind, x.of(0, 0, 3), 0);
        }
    }

    @Edge(promise = 12, says = "say in which CELL one is in MINUTE t (47 at most), how high one counts")
    static void p12_of_cell47AtMost() {
        int[] minutes = {0, 1, 15, 16, 23, 24, 47, 48, 59};
        int[] walks = {WALKER, HELD, TWIN, GROWS};
        for (int kind : walks) {
            cells(kind, 0, 3, minutes, 0, 3, 45, 47, 47, 47, 47, 47, 47);
            cells(kind, 0, 2, minutes, 0, 2, 30, 32, 46, 47, 47, 47, 47);
            cells(kind, 0, 1, minutes, 0, 1, 15, 16, 23, 24, 47, 47, 47);
            cells(kind, 0, 0, minutes, 0, 0, 0, 0, 0, 0, 0, 0, 0);
            cells(kind, 47, 3, minutes, 47, 47, 47, 47, 47, 47, 47, 47, 47);
            cells(kind, 46, 1, minutes, 46, 47, 47, 47, 47, 47, 47, 47, 47);
        }
        int[] early = {0, 1, 2, 59};
        int[] plays = {PLAYER, DOLL};
        for (int kind : plays) {
            cells(kind, 44, 3, early, 44, 47, 44, 47);
            cells(kind, 45, 3, early, 45, 47, 45, 47);
            cells(kind, 46, 1, early, 46, 47, 46, 47);
            cells(kind, 47, 3, early, 47, 47, 47, 47);
        }
    }

    @Edge(promise = 12, says = "0 WALKER: CELL and STEPS times t; HEIGHT")
    static void p12_of_walker() {
        int[] minutes = {0, 1, 2, 10, 59};
        cells(WALKER, 5, 0, minutes, 5, 5, 5, 5, 5);
        cells(WALKER, 5, 1, minutes, 5, 6, 7, 15, 47);
        cells(WALKER, 5, 3, minutes, 5, 8, 11, 35, 47);
        highs(WALKER, 0, 1, 2, 3, 4, 5, 6, 7, 8, 9);
        highs(WALKER, 59, 1, 2, 3, 4, 5, 6, 7, 8, 9);
    }

    @Edge(promise = 12, says = "1 HELD (under WALKER): as WALKER; 2 more, 9 at most")
    static void p12_of_held9AtMost() {
        highs(HELD, 0, 3, 4, 5, 6, 7, 8, 9, 9, 9);
        highs(HELD, 59, 3, 4, 5, 6, 7, 8, 9, 9, 9);
        cells(HELD, 5, 2, new int[] {0, 1, 2, 3}, 5, 7, 9, 11);
    }

    @Edge(promise = 12, says = "2 PLAYER (under WALKER): its CELL in even MINUTES, else that and STEPS; as WALKER")
    static void p12_of_playerEvenOdd() {
        int[] minutes = {0, 1, 2, 3, 30, 31, 58, 59};
        cells(PLAYER, 5, 3, minutes, 5, 8, 5, 8, 5, 8, 5, 8);
        cells(PLAYER, 5, 1, minutes, 5, 6, 5, 6, 5, 6, 5, 6);
        cells(PLAYER, 5, 0, minutes, 5, 5, 5, 5, 5, 5, 5, 5);
        highs(PLAYER, 0, 1, 2, 3, 4, 5, 6, 7, 8, 9);
        highs(PLAYER, 59, 1, 2, 3, 4, 5, 6, 7, 8, 9);
    }

    @Edge(promise = 12, says = "3 TWIN (under HELD): as HELD; half of HELD (cut), 1 at least")
    static void p12_of_twinCut1AtLeast() {
        highs(TWIN, 0, 1, 2, 2, 3, 3, 4, 4, 4, 4);
        highs(TWIN, 59, 1, 2, 2, 3, 3, 4, 4, 4, 4);
        cells(TWIN, 5, 2, new int[] {0, 1, 2, 3}, 5, 7, 9, 11);
    }

    @Edge(promise = 12, says = "4 GROWS (under WALKER): as WALKER; 1 more for each 15 MINUTES gone by, 9 at most")
    static void p12_of_growsEach15Minutes9AtMost() {
        highs(GROWS, 0, 1, 2, 3, 4, 5, 6, 7, 8, 9);
        highs(GROWS, 14, 1, 2, 3, 4, 5, 6, 7, 8, 9);
        highs(GROWS, 15, 2, 3, 4, 5, 6, 7, 8, 9, 9);
        highs(GROWS, 29, 2, 3, 4, 5, 6, 7, 8, 9, 9);
        highs(GROWS, 30, 3, 4, 5, 6, 7, 8, 9, 9, 9);
        highs(GROWS, 44, 3, 4, 5, 6, 7, 8, 9, 9, 9);
        highs(GROWS, 45, 4, 5, 6, 7, 8, 9, 9, 9, 9);
        highs(GROWS, 59, 4, 5, 6, 7, 8, 9, 9, 9, 9);
        cells(GROWS, 5, 2, new int[] {0, 1, 2, 3}, 5, 7, 9, 11);
    }

    @Edge(promise = 12, says = "5 DOLL (under PLAYER): as PLAYER; as PLAYER ahead of MINUTE 20, "
            + "then it counts no more at all (as if in bed)")
    static void p12_of_dollAheadOfMinute20() {
        highs(DOLL, 0, 1, 2, 3, 4, 5, 6, 7, 8, 9);
        highs(DOLL, 19, 1, 2, 3, 4, 5, 6, 7, 8, 9);
        highs(DOLL, 20, 0, 0, 0, 0, 0, 0, 0, 0, 0);
        highs(DOLL, 59, 0, 0, 0, 0, 0, 0, 0, 0, 0);
        cells(DOLL, 5, 3, new int[] {0, 1, 19, 20, 21, 59}, 5, 8, 8, 5, 8, 8);
        SmallestSpeed x = road(10, 0);
        x.child(DOLL, 9, 20, 0, 19);
        due("out till bed", x.of(0, 18, 3), 9);
        due("in bed ahead of minute 20", x.of(0, 19, 3), 0);
    }
}
