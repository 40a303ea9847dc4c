/** Promise 8, sentence by sentence: what may be undone. */
final class UndoEdges extends Edges {
    /** Children 0, 1 and 2 in cells 20, 21, 22, out till minutes 30, 31, 32. */
    private static SmallestSpeed threeChildren() {
        SmallestSpeed x = road(10, 0);
        for (int i = 0; i < 3; i++) {
            x.child(0, 4, 20 + i, 0, 30 + i);
        }
        return x;
    }

    @Edge(promise = 8, says = "NO: none may be")
    static void p08_undo_noneMayBe() {
        refused(SmallestSpeed::new, x -> x.undo(), NO);
        refused(UndoEdges::threeChildren, x -> x.undo(), NO);
        SmallestSpeed x = threeChildren();
        x.stand(0, 5);
        due("the only one", x.undo(), 0);
        due("none more", x.undo(), NO);
        due("none more", x.undo(), NO);
        due("none is to be done again", x.of(0, 0, 2), 20);
        status(x, 0, 2, 0);
        due("one more is told", x.stand(0, 6), 20);
        due("and undone", x.undo(), 0);
    }

    @Edge(promise = 8, says = "UNDO: how many may be undone then")
    static void p08_undo_howManyMayBeUndoneThen() {
        SmallestSpeed x = taken(y -> y.undo(), BUSY_UNDOS - 1);
        for (int n = BUSY_UNDOS - 2; n >= 0; n--) {
            due("then", x.undo(), n);
            due("count(5)", x.count(5), n);
        }
    }

    @Edge(promise = 8, says = "8 at most")
    static void p08_undo_8AtMost() {
        SmallestSpeed x = threeChildren();
        for (int i = 1; i <= 7; i++) {
            x.stand(0, i);
        }
        due("seven", x.count(5), 7);
        x.stand(0, 8);
        due("eight", x.count(5), 8);
        for (int n = 7; n >= 0; n--) {
            due("undone", x.undo(), n);
        }
        due("as it came", x.of(0, 0, 2), 20);
        for (int i = 1; i <= 9; i++) {
            x.stand(0, i);
        }
        due("eight of nine", x.count(5), 8);
        for (int n = 7; n >= 0; n--) {
            due("undone", x.undo(), n);
        }
        due("no 9th", x.undo(), NO);
        due("the oldest one stays", x.of(0, 0, 2), 1);
    }

    @Edge(promise = 8, says = "8 at most")
    static void p08_undo_8AtMostManyTimesOver() {
        SmallestSpeed x = threeChildren();
        for (int i = 1; i <= 40; i++) {
            x.stand(i % 3, i);
            x.bed(i % 3, i);
        }
        for (int i = 40; i > 36; i--) {
            due("the bed", x.of(i % 3, 0, 5), i);
            due("the cell", x.of(i % 3, 0, 2), i);
            due("the bed is undone", x.undo(), 2 * (i - 37) + 1);
            due("the bed ahead", x.of(i % 3, 0, 5), i - 3);
            due("the cell yet", x.of(i % 3, 0, 2), i);
            due("the cell is undone", x.undo(), 2 * (i - 37));
            due("the cell ahead", x.of(i % 3, 0, 2), i - 3);
        }
        due("no more", x.undo(), NO);
    }

    @Edge(promise = 8, says = "8 at most")
    static void p08_undo_8AtMostOfCellsAndBeds() {
        SmallestSpeed x = threeChildren();
        boolean[] beds = {true, false, false, true, false, true, true, false, false, false, true};
        for (int i = 0; i < beds.length; i++) {
            due("what it was", beds[i] ? x.bed(0, i + 1) : x.stand(0, i + 1), wasAhead(beds, i));
        }
        for (int i = beds.length - 1; i >= 3; i--) {
            due("undone", x.undo(), i - 3);
            due("as ahead of it", x.of(0, 0, beds[i] ? 5 : 2), wasAhead(beds, i));
        }
        due("no more", x.undo(), NO);
        due("the cell told third stays", x.of(0, 0, 2), 3);
        due("the bed told first stays", x.of(0, 0, 5), 1);
    }

    /** The one told last of the same sort ahead of the i-th, which was told as its number and 1. */
    private static int wasAhead(boolean[] beds, int i) {
        for (int j = i - 1; j >= 0; j--) {
            if (beds[j] == beds[i]) {
                return j + 1;
            }
        }
        return beds[i] ? 30 : 20;
    }

    @Edge(promise = 8, says = "8 at most")
    static void p08_undo_8AtMostThoughSomeAreUndone() {
        SmallestSpeed x = threeChildren();
        for (int i = 1; i <= 8; i++) {
            x.stand(0, i);
        }
        x.undo();
        x.undo();
        due("six", x.count(5), 6);
        x.stand(1, 40);
        x.stand(1, 41);
        x.stand(1, 42);
        due("eight", x.count(5), 8);
        for (int n = 7; n >= 0; n--) {
            due("undone", x.undo(), n);
        }
        due("the other is as it came", x.of(1, 0, 2), 21);
        due("the oldest stays", x.of(0, 0, 2), 1);
    }

    @Edge(promise = 8, says = "behind a CHILD that comes none may be")
    static void p08_undo_noneBehindAChild() {
        SmallestSpeed x = threeChildren();
        x.stand(0, 5);
        x.bed(1, 6);
        x.child(0, 1, 1, 1, 1);
        due("none", x.count(5), 0);
        due("none", x.undo(), NO);
        due("the cell stays", x.of(0, 0, 2), 5);
        due("the bed stays", x.of(1, 0, 5), 6);
        x.stand(3, 9);
        due("one behind it", x.undo(), 0);
        due("the new one, as it came", x.of(3, 0, 2), 1);
    }

    @Edge(promise = 8, says = "behind a CHILD that comes none may be")
    static void p08_undo_someBehindAChildThatIsRefused() {
        SmallestSpeed x = threeChildren();
        x.stand(0, 5);
        due("bad", x.child(6, 1, 1, 1, 1), BAD);
        due("one", x.count(5), 1);
        SmallestSpeed y = full();
        due("full", y.child(0, 1, 1, 1, 1), FULL);
        due("eight", y.count(5), 8);
        due("seven then", y.undo(), 7);
    }

    @Edge(promise = 8, says = "UNDO: CELLS in which CHILDREN are at first, BEDS as ahead of the last one told anew")
    static void p08_undo_asAheadOfTheLastOneTold() {
        SmallestSpeed x = threeChildren();
        x.stand(1, 47);
        x.bed(1, 0);
        x.stand(2, 0);
        x.bed(0, 60);
        due("the bed of 0", x.undo(), 3);
        due("as ahead", x.of(0, 0, 5), 30);
        due("the cell of 2 yet", x.of(2, 0, 2), 0);
        due("the cell of 2", x.undo(), 2);
        due("as ahead", x.of(2, 0, 2), 22);
        due("the bed of 1 yet", x.of(1, 0, 5), 0);
        due("the bed of 1", x.undo(), 1);
        due("as ahead", x.of(1, 0, 5), 31);
        due("the cell of 1 yet", x.of(1, 0, 2), 47);
        due("the cell of 1", x.undo(), 0);
        due("as ahead", x.of(1, 0, 2), 21);
    }

    @Edge(promise = 8, says = "UNDO: CELLS in which CHILDREN are at first, BEDS as ahead of the last one told anew")
    static void p08_undo_toldAnewThoughTheSame() {
        SmallestSpeed x = threeChildren();
        x.stand(0, 20);
        x.bed(0, 30);
        due("two", x.count(5), 2);
        due("one then", x.undo(), 1);
        due("none then", x.undo(), 0);
        due("the cell", x.of(0, 0, 2), 20);
        due("the bed", x.of(0, 0, 5), 30);
    }

    @Edge(promise = 8, says = "UNDO: CELLS in which CHILDREN are at first, BEDS as ahead of the last one told anew")
    static void p08_undo_ofNothingElse() {
        SmallestSpeed x = threeChildren();
        x.stand(0, 5);
        x.rule(2);
        x.sight(3);
        x.speed(4);
        x.reading(5, 6, 7);
        x.type('r');
        x.days(1, 1, 0);
        x.image(0);
        due("still one", x.count(5), 1);
        due("the cell", x.undo(), 0);
        due("as it came", x.of(0, 0, 2), 20);
        counts(x, 3, 3, 2, 1, 1, 0, 1);
        due("no more", x.undo(), NO);
        x.stop();
        x.forget();
        x.clear();
        due("nor by these", x.undo(), NO);
    }

    @Edge(promise = 8, says = "UNDO: CELLS in which CHILDREN are at first, BEDS as ahead of the last one told anew")
    static void p08_undo_notWhatWasRefused() {
        SmallestSpeed x = threeChildren();
        x.stand(0, 48);
        x.stand(3, 5);
        x.bed(0, 61);
        x.bed(-1, 5);
        due("nothing", x.count(5), 0);
        x.stand(0, 7);
        x.stand(0, -1);
        due("one", x.count(5), 1);
        due("undone", x.undo(), 0);
        due("as it came", x.of(0, 0, 2), 20);
    }
}
