/** Promises 9 to 11, sentence by sentence: the text, and the road that it tells. */
final class TextEdges extends Edges {
    private static final String SIX = "road 1 2;child 0 1 0 0 0;child 1 2 9 1 9;child 2 3 8 2 8;child 3 4 7 3 7;"
            + "child 4 5 6 0 6;child 5 9 5 1 5;";

    private static void fault(String text, int place) {
        due("«" + text + "»", readOf(text), -10 - place);
    }

    private static void items(String text, int many) {
        due("«" + text + "»", readOf(text), many);
    }

    private static SmallestSpeed typed(String text) {
        SmallestSpeed x = new SmallestSpeed();
        type(x, text);
        return x;
    }

    // ---- 9: type

    @Edge(promise = 9, says = {"A byte (0 .. 127) comes behind THE TEXT: how many it has", "BAD"})
    static void p09_type_bytes0To127() {
        taken(x -> x.type(0), BUSY_BYTES + 1);
        taken(x -> x.type(127), BUSY_BYTES + 1);
        beyond(0, 127, BAD, (x, n) -> x.type(n));
    }

    @Edge(promise = 9, says = "A byte (0 .. 127) comes behind THE TEXT: how many it has")
    static void p09_type_howManyItHas() {
        SmallestSpeed x = new SmallestSpeed();
        due("the first", x.type('r'), 1);
        due("the second", x.type('o'), 2);
        due("none by a refused one", x.type(128), BAD);
        due("the third", x.type('a'), 3);
        due("count(6)", x.count(6), 3);
        type(x, "d 7 2;");
        due("each behind the others", x.read(), 1);
        counts(x, 0, 7, 2, 0, 0, 0, 9);
    }

    @Edge(promise = 9, says = {"THE ROAD is told by a TEXT (150 bytes at most)", "FULL"})
    static void p09_type_full150() {
        SmallestSpeed x = new SmallestSpeed();
        type(x, " ".repeat(148));
        due("the 149th", x.type(' '), 149);
        due("the 150th", x.type(' '), 150);
        due("a 151st", x.type(' '), FULL);
        due("count(6)", x.count(6), 150);
        refused(Edges::full, y -> y.type(' '), FULL);
        refused(Edges::full, y -> y.type(0), FULL);
    }

    @Edge(promise = 9, says = "Refused, changing nothing but STATUS, the first of")
    static void p09_type_badAheadOfFull() {
        refused(Edges::full, x -> x.type(128), BAD);
        refused(Edges::full, x -> x.type(-1), BAD);
    }

    // ---- 10: clear

    @Edge(promise = 10, says = "THE TEXT is empty: how many it had")
    static void p10_clear_howManyItHad() {
        due("none", new SmallestSpeed().clear(), 0);
        due("one", typed(" ").clear(), 1);
        SmallestSpeed x = full();
        due("150", x.clear(), 150);
        due("none then", x.clear(), 0);
        due("room again", x.type(' '), 1);
    }

    @Edge(promise = 10, says = "THE TEXT is empty: how many it had")
    static void p10_clear_nothingOfItIsLeft() {
        SmallestSpeed x = typed("road 1 2;");
        x.clear();
        due("empty", x.read(), -10);
        type(x, "road 3");
        due("no end of the old one", x.read(), -16);
        type(x, " 1;");
        due("the new one", x.read(), 1);
        counts(x, 0, 3, 1);
    }

    @Edge(promise = 10, says = "THE TEXT is empty: how many it had")
    static void p10_clear_nothingElse() {
        SmallestSpeed x = taken(y -> y.clear(), BUSY_BYTES);
        counts(x, BUSY_CHILDREN, 20, 2, BUSY_SPEEDS, BUSY_READINGS, BUSY_UNDOS, 0);
        type(x, "road 5 1;child 2 3 4 1 60;");
        due("all else as it was", x.digest(), busy().digest());
    }

    // ---- 11: read, what can be read

    @Edge(promise = 11, says = "THE ROAD is read: how many ITEMS")
    static void p11_read_howManyItems() {
        items("road 1 2;", 1);
        items("road 1 2;child 0 1 0 0 0;", 2);
        items(SIX, 7);
        items("road 0 0;", 1);
        items("road 47 2;child 5 9 47 3 60;", 2);
    }

    @Edge(promise = 11, says = "road SIGHT LAW (once, first of all); child KIND HEIGHT CELL STEPS BED")
    static void p11_read_whatTheItemsTell() {
        SmallestSpeed x = typed("road 12 1;child 5 9 47 3 60;child 0 1 0 0 0;child 2 3 4 1 5;");
        due("items", x.read(), 4);
        due("digest", x.digest(), digestOf(3, 12, 1, 0, 0, 0, 60, 5, 9, 47, 3, 60, 0, 1, 0, 0, 0, 2, 3, 4, 1, 5, 0, 1));
        SmallestSpeed y = typed(SIX);
        due("items", y.read(), 7);
        due("digest", y.digest(), digestOf(6, 1, 2, 0, 0, 0, SIX.length(), 0, 1, 0, 0, 0, 1, 2, 9, 1, 9, 2, 3, 8, 2, 8,
                3, 4, 7, 3, 7, 4, 5, 6, 0, 6, 5, 9, 5, 1, 5, 0, 1));
    }

    @Edge(promise = 11, says = "THE ROAD is told by a TEXT (150 bytes at most)")
    static void p11_read_aFullText() {
        String text = SIX + " ".repeat(150 - SIX.length());
        items(text, 7);
        String late = " ".repeat(150 - SIX.length()) + SIX;
        items(late, 7);
        due("150 bytes", late.length(), 150);
        fault(" ".repeat(149) + ";", 149);
        fault("road 1 2" + " ".repeat(142), 150);
        fault(" ".repeat(146) + "road", 150);
        items(" ".repeat(141) + "road 1 2;", 1);
    }

    @Edge(promise = 11, says = "TOKENS: words of letters a .. z, figures (1 or 2 are one number), ; ; blanks (32) between")
    static void p11_read_blanksBetween() {
        items("   road   1   2   ;   child   0   1   0   0   0   ;   ", 2);
        items("road 1 2 ;child 0 1 0 0 0 ;", 2);
        items("road1 2;child0 1 0 0 0;", 2);
        fault("road 12;", 7);
        fault("ro ad 1 2;", 0);
        fault("road 1 2;chi ld 0 1 0 0 0;", 9);
    }

    @Edge(promise = 11, says = "TOKENS: words of letters a .. z, figures (1 or 2 are one number), ; ; blanks (32) between")
    static void p11_read_1Or2FiguresAreOneNumber() {
        SmallestSpeed x = typed("road 09 02;child 05 09 07 03 06;child 0 1 10 0 59;");
        due("items", x.read(), 3);
        due("digest", x.digest(),
                digestOf(2, 9, 2, 0, 0, 0, 50, 5, 9, 7, 3, 6, 0, 1, 10, 0, 59, 0, 1));
        items("road 00 00;child 00 01 00 00 00;", 2);
    }

    // ---- 11: read, faults

    @Edge(promise = 11, says = "the TEXT's length, if it ends too early (an empty one, too)")
    static void p11_read_anEmptyText() {
        fault("", 0);
        fault(" ", 1);
        fault("  ", 2);
        fault(" ".repeat(150), 150);
    }

    @Edge(promise = 11, says = {"the TEXT's length, if it ends too early (an empty one, too)", "each ended by ;"})
    static void p11_read_eachBeginningOfAText() {
        String text = "road 10 2;child 3 9 47 3 60;";
        for (int length = 0; length <= text.length(); length++) {
            boolean inFirstWord = length >= 1 && length <= 3;
            boolean inSecondWord = length >= 11 && length <= 14;
            int want = inFirstWord ? -10 : inSecondWord ? -20 : -10 - length;
            want = length == 10 ? 1 : length == 28 ? 2 : want;
            due("its first " + length + " bytes", readOf(text.substring(0, length)), want);
        }
    }

    @Edge(promise = 11, says = "each ended by ;")
    static void p11_read_eachEndedBySemicolon() {
        fault("road 1 2", 8);
        fault("road 1 2 ", 9);
        fault("road 1 2 child 0 1 0 0 0;", 9);
        fault("road 1 2;child 0 1 0 0 0", 24);
        fault("road 1 2;child 0 1 0 0 0 child 0 1 0 0 0;", 25);
        fault("road 1 2;;", 9);
        fault("road 1 2;child 0 1 0 0 0;;", 25);
        fault("road 1 2 3;", 9);
        fault("road 1;", 6);
        fault("road;", 4);
        fault("road 1 2;child;", 14);
        fault("road 1 2;child 0 1 0 0;", 22);
        fault("road 1 2;child 0 1 0 0 0 0;", 25);
        fault(";", 0);
    }

    @Edge(promise = 11, says = "a word that is none")
    static void p11_read_aWordThatIsNone() {
        fault("roads 1 2;", 0);
        fault("roa 1 2;", 0);
        fault("rpad 1 2;", 0);
        fault("r", 0);
        fault("  z", 2);
        fault("roadroad 1 2;", 0);
        fault("road 1 2;children 0 1 0 0 0;", 9);
        fault("road 1 2; chil 0 1 0 0 0;", 10);
        fault("road 1 2;childchild", 9);
        fault("road 1 2;a", 9);
        fault("road a 2;", 5);
        fault("road 1 a;", 7);
        fault("road 1 2a;", 8);
        fault("road 1 2 road;", 9);
        fault("road road 1 2;", 5);
        for (int i = 0; i < 5; i++) {
            if (i < 4) {
                fault("road".substring(0, i) + "z" + "road".substring(i + 1) + " 1 2;", 0);
            }
            fault("road 1 2;" + "child".substring(0, i) + "z" + "child".substring(i + 1) + " 0 1 0 0 0;", 9);
        }
    }

    @Edge(promise = 11, says = {"road again", "once, first of all"})
    static void p11_read_roadAgain() {
        fault("road 1 2;road 1 2;", 9);
        fault("road 1 2;  road", 11);
        fault("road 1 2;child 0 1 0 0 0;road 1 2;", 25);
        fault(SIX + "road 1 2;", SIX.length());
    }

    @Edge(promise = 11, says = {"anything ahead of it", "once, first of all"})
    static void p11_read_anythingAheadOfRoad() {
        fault("child 0 1 0 0 0;", 0);
        fault("child 0 1 0 0 0;road 1 2;", 0);
        fault(" child", 1);
        fault("; road 1 2;", 0);
        fault("1 road 1 2;", 0);
        fault("  12", 2);
        fault("#road 1 2;", 0);
    }

    @Edge(promise = 11, says = "a 7th child at its word")
    static void p11_read_a7thChildAtItsWord() {
        items(SIX, 7);
        fault(SIX + "child 0 1 0 0 0;", SIX.length());
        fault(SIX + "  child 0 1 0 0 0;", SIX.length() + 2);
        fault(SIX + "child", SIX.length());
        fault(SIX + "child 99", SIX.length());
        fault(SIX + "chil", SIX.length());
        fault(SIX + "1", SIX.length());
        items(SIX + "  ", 7);
    }

    @Edge(promise = 11, says = "a third figure's number")
    static void p11_read_aThirdFiguresNumber() {
        fault("road 010 2;", 5);
        fault("road 000 2;", 5);
        fault("road 1 002;", 7);
        fault("road 1 2;child 000 1 0 0 0;", 15);
        fault("road 1 2;child 0 001 0 0 0;", 17);
        fault("road 1 2;child 0 1 0 0 060;", 23);
        fault("road 1234567890123 2;", 5);
        fault("road 4294967297 2;", 5);
        fault("road 123", 5);
        fault("123", 0);
    }

    @Edge(promise = 11, says = {"a number not as told", "SIGHT (0 .. 47 CELLS; 10 at first)", "LAW (0 .. 2; 0 at first)"})
    static void p11_read_aRoadsNumberNotAsTold() {
        items("road 47 2;", 1);
        fault("road 48 2;", 5);
        fault("road 99 2;", 5);
        fault("road 47 3;", 8);
        fault("road 47 03;", 8);
        fault("road 47 99;", 8);
        fault("road  48", 6);
        fault("road 0 3", 7);
    }

    @Edge(promise = 11, says = {"a number not as told", "CHILDREN 0 .. 5, as they come: a KIND", "HEIGHT (1 .. 9)", "STEPS (0 .. 3)",
        "BED (a MINUTE, 0 .. 60; out in all MINUTES ahead of it)"})
    static void p11_read_aChildsNumberNotAsTold() {
        String road = "road 1 2;";
        items(road + "child 0 1 0 0 0;", 2);
        items(road + "child 5 9 47 3 60;", 2);
        fault(road + "child 6 1 0 0 0;", 15);
        fault(road + "child 0 0 0 0 0;", 17);
        fault(road + "child 0 10 0 0 0;", 17);
        fault(road + "child 0 1 48 0 0;", 19);
        fault(road + "child 0 1 0 4 0;", 21);
        fault(road + "child 0 1 0 0 61;", 23);
        fault(road + "child 6 0 48 4 61;", 15);
        fault(road + "child 5 9 47 3 61", 24);
        fault(road + "child 0 1 0 0 0;child 0 1 0 4 0;", 37);
    }

    @Edge(promise = 11, says = "a byte that begins none")
    static void p11_read_aByteThatBeginsNone() {
        for (int c = 0; c <= 127; c++) {
            boolean begins = c >= 'a' && c <= 'z' || c >= '0' && c <= '9' || c == ';' || c == ' ';
            if (!begins) {
                char sign = (char) c;
                fault(sign + "road 1 2;", 0);
                fault("road " + sign + "1 2;", 5);
                fault("road 1" + sign + " 2;", 6);
                fault("road 1 2" + sign + ";", 8);
                fault("road 1 2;" + sign, 9);
                fault("road 1 2; " + sign + "child 0 1 0 0 0;", 10);
            }
        }
        fault("Road 1 2;", 0);
        fault("ro\0ad 1 2;", 0);
        fault("road\t1 2;", 4);
        fault("road 1 -2;", 7);
    }

    @Edge(promise = 11, says = "the place of the first byte of the first TOKEN that can not stand there")
    static void p11_read_theFirstOfMoreFaults() {
        fault("road 48 3;", 5);
        fault("road 1 3;road 1 2;", 7);
        fault("road 1 2;child 6 0 48 4 61;", 15);
        fault("road 1 2;child 0 0 48 4 61;", 17);
        fault("rode 48 3;", 0);
        fault("road 1 2 2;road", 9);
        fault("road 1 2;child 0 1 0 0 0;child 0 1 0 0 61;road", 39);
    }

    // ---- 11: read, what changes

    @Edge(promise = 11, says = "A ROAD that is read takes the place of all but IMAGES, THE TEXT, THE FRACTION, STATUS "
            + "(READINGS, SPEEDS none; nothing to undo)")
    static void p11_read_takesThePlaceOfAll() {
        SmallestSpeed x = taken(y -> y.read(), 2);
        counts(x, 1, 5, 1, 0, 0, 0, BUSY_BYTES);
        due("digest", x.digest(), digestOf(1, 5, 1, 0, 0, 0, BUSY_BYTES, 2, 3, 4, 1, 60, x.part(0), x.part(1)));
        due("nothing to undo", x.undo(), NO);
        due("no readings", x.out(0), 2);
        due("no speeds", x.fined(0, 1), 0);
        due("a child comes behind those read", x.child(0, 1, 1, 1, 1), 1);
    }

    @Edge(promise = 11, says = "A ROAD that is read takes the place of all but IMAGES, THE TEXT, THE FRACTION, STATUS "
            + "(READINGS, SPEEDS none; nothing to undo)")
    static void p11_read_butForImagesTextFractionStatus() {
        SmallestSpeed x = busy();
        long above = x.part(0);
        long below = x.part(1);
        x.read();
        fraction(x, above, below);
        status(x, 1, 1, 0);
        due("the text is read again", x.read(), 2);
        due("image 0", x.from(0), 1);
        counts(x, 1, 20, 2, 0, 0, 1, BUSY_BYTES);
        due("image 1", x.from(1), 1);
        counts(x, 2, 20, 2, 1, 1, 0, BUSY_BYTES);
    }

    @Edge(promise = 11, says = "A ROAD that is read takes the place of all but IMAGES, THE TEXT, THE FRACTION, STATUS "
            + "(READINGS, SPEEDS none; nothing to undo)")
    static void p11_read_aRoadOfNobody() {
        SmallestSpeed x = full();
        x.clear();
        type(x, "road 3 0;");
        due("items", x.read(), 1);
        counts(x, 0, 3, 0, 0, 0, 0, 9);
        due("digest", x.digest(), digestOf(0, 3, 0, 0, 0, 0, 9, 0, 1));
    }

    @Edge(promise = 11, says = "-10 less the FAULT: all stays")
    static void p11_read_atAFaultAllStays() {
        String[] faulty = {"", "road", "road 1 2", "road 48 2;", "road 1 2;child 0 1 0 0 0;child 0 1 0 0 61;",
            "road 1 2;road 1 2;", SIX + "child", "#"};
        for (String text : faulty) {
            changesNothing(() -> withText(busy(), text), x -> x.read());
            changesNothing(() -> withText(withImages(), text), x -> x.read());
            changesNothing(() -> typed(text), x -> x.read());
        }
    }

    private static SmallestSpeed withText(SmallestSpeed x, String text) {
        x.clear();
        type(x, text);
        return x;
    }
}
