/** Promises 18 to 20, sentence by sentence: a drive told by its speeds. */
final class SpeedEdges extends Edges {
    private static final String PAST = "PAST: CHILDREN (bits) who are out, in a CELL from which, over which, to which one goes in that "
            + "MINUTE (not if one stands)";

    private static SmallestSpeed speeds(SmallestSpeed x, int... speeds) {
        for (int s : speeds) {
            x.speed(s);
        }
        return x;
    }

    private static SmallestSpeed many(int n, int speed) {
        SmallestSpeed x = new SmallestSpeed();
        for (int i = 0; i < n; i++) {
            x.speed(speed);
        }
        return x;
    }

    // ---- 18: speed

    @Edge(promise = 18, says = {"SPEEDS 0 .. 19, as they come (0 .. 15 each)", "BAD"})
    static void p18_speed_0To15() {
        taken(x -> x.speed(0), BUSY_SPEEDS + 1);
        taken(x -> x.speed(15), BUSY_SPEEDS + 1);
        beyond(0, 15, BAD, (x, n) -> x.speed(n));
    }

    @Edge(promise = 18, says = {"SPEEDS 0 .. 19, as they come (0 .. 15 each)", "FULL: 20"})
    static void p18_speed_full20() {
        SmallestSpeed x = new SmallestSpeed();
        for (int i = 1; i <= 19; i++) {
            due("how many", x.speed(9), i);
        }
        due("the 20th", x.speed(9), 20);
        due("a 21st", x.speed(9), FULL);
        due("count(3)", x.count(3), 20);
        refused(Edges::full, y -> y.speed(0), FULL);
        x.stop();
        due("the first again", x.speed(9), 1);
    }

    @Edge(promise = 18, says = "Refused, changing nothing but STATUS, the first of")
    static void p18_speed_badAheadOfFull() {
        refused(Edges::full, x -> x.speed(16), BAD);
        refused(Edges::full, x -> x.speed(-1), BAD);
    }

    @Edge(promise = 18, says = "A SPEED: how many there are")
    static void p18_speed_asTheyCome() {
        SmallestSpeed x = speeds(new SmallestSpeed(), 3, 0, 15);
        due("digest", x.digest(), digestOf(0, 10, 0, 3, 0, 0, 0, 3, 0, 15, 0, 1));
        counts(taken(y -> y.speed(1), 3), BUSY_CHILDREN, 20, 2, 3, BUSY_READINGS, BUSY_UNDOS, BUSY_BYTES);
    }

    // ---- 19: stop

    @Edge(promise = 19, says = "No SPEEDS: how many there were")
    static void p19_stop_howManyThereWere() {
        taken(SmallestSpeed::new, x -> x.stop(), 0);
        taken(Edges::full, x -> x.stop(), 20);
        SmallestSpeed x = many(1, 15);
        due("one", x.stop(), 1);
        due("none then", x.stop(), 0);
    }

    @Edge(promise = 19, says = "No SPEEDS: how many there were")
    static void p19_stop_noSpeeds() {
        SmallestSpeed x = taken(y -> y.stop(), BUSY_SPEEDS);
        counts(x, BUSY_CHILDREN, 20, 2, 0, BUSY_READINGS, BUSY_UNDOS, BUSY_BYTES);
        due("none is fined", x.fined(0, 0), NONE);
        due("no fine", x.fined(0, 1), 0);
        due("nobody is run past", x.fined(0, 2), 0);
        speeds(x, 5, 12);
        due("all else as it was", x.digest(), busy().digest());
    }

    // ---- 20: fined, what it takes

    @Edge(promise = 20, says = {"MINUTES 0 .. 59", "BAD: -10"})
    static void p20_fined_a0To59() {
        taken(x -> x.fined(0, 0), 1);
        taken(x -> x.fined(59, 0), NONE);
        for (int what = 0; what <= 2; what++) {
            int asked = what;
            beyond(0, 59, MINUS_TEN, (x, n) -> x.fined(n, asked));
        }
    }

    @Edge(promise = 20, says = {"FINED: the first (0; NONE), the FINE (1), PAST (2; bits)", "BAD: -10"})
    static void p20_fined_what0To2() {
        taken(x -> x.fined(0, 0), 1);
        taken(x -> x.fined(0, 1), 6);
        taken(x -> x.fined(0, 2), 5);
        beyond(0, 2, MINUS_TEN, (x, n) -> x.fined(0, n));
    }

    @Edge(promise = 20, says = "(Nothing is changed by these.)")
    static void p20_fined_nothingIsChanged() {
        for (int what = 0; what <= 2; what++) {
            int asked = what;
            changesNothing(x -> x.fined(0, asked));
            changesNothing(x -> x.fined(59, asked));
        }
    }

    // ---- 20: fined, the first and the fine

    @Edge(promise = 20, says = "FINED: the first (0; NONE), the FINE (1), PAST (2; bits)")
    static void p20_fined_noSpeeds() {
        SmallestSpeed x = new SmallestSpeed();
        x.child(0, 1, 0, 0, 60);
        due("none", x.fined(0, 0), NONE);
        due("no fine", x.fined(0, 1), 0);
        due("nobody", x.fined(0, 2), 0);
        status(x, 0, 0, 0);
    }

    @Edge(promise = 20, says = "FINED: the first of them that is more than the LIMIT")
    static void p20_fined_theFirstMoreThanTheLimit() {
        due("as much as the limit", many(20, 9).fined(0, 0), NONE);
        due("one more, the first", many(20, 10).fined(0, 0), 0);
        due("one more, the second", speeds(new SmallestSpeed(), 9, 10, 15).fined(0, 0), 1);
        SmallestSpeed last = speeds(many(19, 9), 10);
        due("the 20th", last.fined(0, 0), 19);
        due("the 20th", last.fined(40, 0), 19);
        due("no minute for it", last.fined(41, 0), NONE);
        SmallestSpeed x = speeds(slow(3), 3, 4, 3);
        due("one more than 3", x.fined(0, 0), 1);
        due("one more than 3", x.fined(58, 0), 1);
        due("no minute for it", x.fined(59, 0), NONE);
    }

    @Edge(promise = 20, says = "the FINE: by how much all are more, together")
    static void p20_fined_theFineOfAllTogether() {
        due("none", many(20, 9).fined(0, 1), 0);
        due("20 by one each", many(20, 10).fined(0, 1), 20);
        due("20 by six each", many(20, 15).fined(0, 1), 120);
        due("less is not taken off", speeds(new SmallestSpeed(), 0, 10, 0, 15, 9, 8).fined(0, 1), 1 + 6);
        SmallestSpeed x = slow(1);
        for (int i = 0; i < 20; i++) {
            x.speed(15);
        }
        due("20 by fourteen each, in the last cell, too", x.fined(0, 1), 280);
    }

    @Edge(promise = 20, says = "a drive from MINUTE a on by them, one in each MINUTE (as many CELLS, 47 at most; MINUTE 59 the last one)")
    static void p20_fined_minute59TheLastOne() {
        SmallestSpeed x = many(20, 10);
        due("all 20", x.fined(40, 1), 20);
        due("19 of them", x.fined(41, 1), 19);
        due("two of them", x.fined(58, 1), 2);
        due("one of them", x.fined(59, 1), 1);
        SmallestSpeed y = road(0, 0);
        y.child(0, 9, 4, 0, 60);
        speeds(y, 2, 2);
        due("there in the second minute", y.fined(58, 2), 1);
        due("no second minute", y.fined(59, 2), 0);
    }

    @Edge(promise = 20, says = "a drive from MINUTE a on by them, one in each MINUTE (as many CELLS, 47 at most; MINUTE 59 the last one)")
    static void p20_fined_cell47AtMost() {
        SmallestSpeed x = road(0, 0);
        x.child(0, 3, 47, 0, 60);
        speeds(x, 15, 15, 15, 15, 4);
        due("6 thrice, 6 in 45, 1 in 47", x.fined(0, 1), 25);
        SmallestSpeed y = road(0, 0);
        y.child(0, 3, 47, 0, 60);
        speeds(y, 15, 15, 15, 2, 4);
        due("6 thrice, 1 in 47", y.fined(0, 1), 19);
        SmallestSpeed z = road(0, 0);
        z.child(0, 3, 47, 0, 60);
        speeds(z, 15, 15, 15, 1, 4);
        due("6 thrice, none in 46", z.fined(0, 1), 18);
    }

    @Edge(promise = 20, says = "a drive from MINUTE a on by them, one in each MINUTE (as many CELLS, 47 at most; MINUTE 59 the last one)")
    static void p20_fined_byTheLimitWhereOneIsThen() {
        SmallestSpeed x = road(0, 0);
        x.child(0, 1, 5, 0, 3);
        speeds(x, 5, 0, 0, 5);
        due("in 5 from minute 1 on, in bed in minute 3", x.fined(0, 1), 0);
        SmallestSpeed y = road(0, 0);
        y.child(0, 1, 5, 0, 60);
        speeds(y, 5, 2, 2, 9);
        due("2 in 5", y.fined(0, 1), 1);
        due("the second", y.fined(0, 0), 1);
    }

    // ---- 20: fined, who is run past

    @Edge(promise = 20, says = PAST)
    static void p20_fined_pastFromOverTo() {
        for (int cell = 0; cell <= 8; cell++) {
            SmallestSpeed x = road(0, 0);
            x.child(2, 9, cell, 3, 60);
            speeds(x, 2, 3);
            boolean past = cell >= 2 && cell <= 5;
            due("a player in " + cell + " as one goes from 2 to 5", x.fined(1, 2), past ? 1 : 0);
        }
        for (int cell = 0; cell <= 5; cell++) {
            SmallestSpeed x = road(0, 0);
            x.child(0, 9, cell, 0, 60);
            speeds(x, 4);
            due("one in " + cell + " as one goes from 0 to 4", x.fined(59, 2), cell <= 4 ? 1 : 0);
        }
    }

    @Edge(promise = 20, says = PAST)
    static void p20_fined_pastNotIfOneStands() {
        SmallestSpeed x = road(0, 0);
        x.child(0, 9, 0, 0, 60);
        x.child(0, 9, 1, 0, 60);
        speeds(x, 0, 0, 0);
        due("one stands with her", x.fined(0, 2), 0);
        speeds(x, 1);
        due("one goes from her to the other", x.fined(0, 2), 3);
        SmallestSpeed y = road(0, 0);
        y.child(2, 9, 44, 3, 60);
        speeds(y, 15, 15, 13, 3, 1, 0, 0);
        due("she comes to 47 where one stands", y.fined(0, 2), 0);
        SmallestSpeed z = road(0, 0);
        z.child(2, 9, 46, 1, 60);
        speeds(z, 15, 15, 15, 2, 0, 15);
        due("from 45 to 47 in minute 3, she is in 47", z.fined(0, 2), 1);
    }

    @Edge(promise = 20, says = PAST)
    static void p20_fined_pastNotAtTheRoadsEnd() {
        SmallestSpeed x = road(0, 0);
        x.child(0, 9, 45, 0, 60);
        x.child(2, 9, 45, 2, 60);
        speeds(x, 15, 15, 14, 3, 0, 0);
        due("from 44 to 47, over 45", x.fined(0, 2), 1 + 2);
        SmallestSpeed y = road(0, 0);
        y.child(0, 9, 45, 1, 60);
        speeds(y, 15, 15, 15, 2, 15, 1);
        due("one goes to 47, where she is since minute 2", y.fined(0, 2), 1);
        SmallestSpeed z = road(0, 0);
        z.child(2, 9, 44, 3, 60);
        speeds(z, 15, 15, 13, 3, 1, 15, 15);
        due("who can go no further stands, though she comes to 47", z.fined(0, 2), 0);
    }

    @Edge(promise = 20, says = PAST)
    static void p20_fined_pastWhoAreOut() {
        SmallestSpeed x = road(0, 0);
        x.child(0, 9, 0, 0, 10);
        x.child(5, 9, 0, 0, 60);
        x.child(0, 9, 0, 0, 0);
        x.child(0, 1, 0, 0, 60);
        speeds(x, 1);
        due("all but who is never out", x.fined(9, 2), 1 + 2 + 8);
        due("one in bed", x.fined(10, 2), 2 + 8);
        due("the doll yet", x.fined(19, 2), 2 + 8);
        due("the doll no more", x.fined(20, 2), 8);
    }

    @Edge(promise = 20, says = "PAST (2; bits)")
    static void p20_fined_pastAsBits() {
        SmallestSpeed x = road(0, 0);
        for (int i = 0; i < 6; i++) {
            x.child(0, 9, i, 0, 60);
        }
        speeds(x, 1);
        due("0 and 1", x.fined(0, 2), 3);
        speeds(x, 2);
        due("0 to 3", x.fined(0, 2), 15);
        speeds(x, 1, 1);
        due("all six", x.fined(0, 2), 63);
        x.stop();
        speeds(x, 15);
        due("all six at once", x.fined(0, 2), 63);
    }
}
