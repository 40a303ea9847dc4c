/** Each promise of the document by itself; the answers that are due are worked out by hand. */
final class PromiseTests {
    private static final int NONE = -1;
    private static final int BAD = -2;
    private static final int NO = -3;
    private static final int FULL = -4;
    private static final int MIN = Integer.MIN_VALUE;
    private static final int MAX = Integer.MAX_VALUE;

    private static String promise = "";

    private PromiseTests() {
    }

    static void run() {
        roadTests();
        driveTests();
        betterTests();
        seenTests();
        thereIsTests();
    }

    private static void roadTests() {
        p01NewObject();
        p02Road();
        p03Rule();
        p04Sight();
        p05Child();
        p06Stand();
        p07Bed();
        p08Undo();
        p09Type();
        p10Clear();
        p11Read();
        p11Faults();
        p11FaultsChangeNothing();
        p12Of();
        p12OfKinds();
    }

    private static void driveTests() {
        p13LimitByLaws();
        p13LimitWhoIsSeen();
        p13LimitNearest();
        p14Where();
        p15There();
        p16Soonest();
        p17Start();
        p18Speed();
        p19Stop();
        p20FinedFirstAndFine();
        p20FinedPast();
    }

    private static void betterTests() {
        p21ToBed();
        p22Move();
        p23Carters();
    }

    private static void seenTests() {
        p24Reading();
        p25Forget();
        p26Out();
        p27Look();
        p28Dolls();
        p29Days();
    }

    private static void thereIsTests() {
        p30Part();
        p31Image();
        p32From();
        p33Status();
        p34Count();
        p35Digest();
        constants();
    }

    // ---- helps

    private static void due(String what, long got, long want) {
        Check.due(promise + ": " + what, got, want);
    }

    private static SmallestSpeed begin(String name) {
        promise = name;
        return new SmallestSpeed();
    }

    /** A new object with a road of its own, under the promise of before. */
    private static SmallestSpeed road(int sight, int law) {
        SmallestSpeed x = new SmallestSpeed();
        x.road(sight, law);
        return x;
    }

    private static void type(SmallestSpeed x, String text) {
        x.clear();
        for (int i = 0; i < text.length(); i++) {
            x.type(text.charAt(i));
        }
    }

    private static int readOf(SmallestSpeed x, String text) {
        type(x, text);
        return x.read();
    }

    private static int readOf(String text) {
        return readOf(new SmallestSpeed(), text);
    }

    private static long digestOf(long... values) {
        long h = 977;
        for (long v : values) {
            h = 31 * h + v;
        }
        return h;
    }

    private static void refused(SmallestSpeed x, int bad, int no, int full) {
        due("BAD", x.status(0), bad);
        due("NO", x.status(1), no);
        due("FULL", x.status(2), full);
    }

    private static void counts(SmallestSpeed x, int... wants) {
        for (int i = 0; i < wants.length; i++) {
            due("count(" + i + ")", x.count(i), wants[i]);
        }
    }

    /** One child, 1 high, who stands in cell 0 and is seen from cells 0 to 10. */
    private static SmallestSpeed slowStart() {
        SmallestSpeed x = road(10, 0);
        x.child(0, 1, 0, 0, 60);
        return x;
    }

    // ---- a road

    private static void p01NewObject() {
        SmallestSpeed x = begin("1 new object");
        counts(x, 0, 10, 0, 0, 0, 0, 0);
        refused(x, 0, 0, 0);
        due("above", x.part(0), 0);
        due("below", x.part(1), 1);
        due("digest", x.digest(), digestOf(0, 10, 0, 0, 0, 0, 0, 0, 1));
        due("limit", x.limit(20, 30, 0), 9);
        due("image 0", x.from(0), NO);
        due("image 1", x.from(1), NO);
        due("undo", x.undo(), NO);
        refused(x, 0, 3, 0);
    }

    private static void p02Road() {
        SmallestSpeed x = begin("2 road");
        due("first", x.road(47, 2), 0);
        counts(x, 0, 47, 2);
        due("least", x.road(0, 0), 0);
        counts(x, 0, 0, 0);
        x.child(1, 2, 3, 1, 60);
        x.child(2, 2, 3, 1, 60);
        x.image(1);
        x.stand(0, 7);
        x.speed(3);
        x.reading(1, 2, 3);
        x.type('r');
        x.days(1, 1, 0);
        long above = x.part(0);
        due("bad", x.road(48, 0), BAD);
        counts(x, 2, 0, 0, 1, 1, 1, 1);
        due("two children", x.road(5, 1), 2);
        counts(x, 0, 5, 1, 0, 0, 0, 1);
        due("fraction stays", x.part(0), above);
        refused(x, 1, 0, 0);
        due("image stays", x.from(1), 1);
        counts(x, 2, 0, 0, 0, 0, 0, 1);
        int[][] wrong = {{-1, 0}, {48, 0}, {0, -1}, {0, 3}, {MIN, 0}, {MAX, 0}, {0, MIN}, {0, MAX}, {-1, 3}};
        for (int[] w : wrong) {
            due("wrong", x.road(w[0], w[1]), BAD);
        }
        refused(x, 1 + wrong.length, 0, 0);
        counts(x, 2, 0, 0);
    }

    private static void p03Rule() {
        SmallestSpeed x = begin("3 rule");
        due("to 2", x.rule(2), 0);
        due("to 1", x.rule(1), 2);
        due("bad", x.rule(3), BAD);
        due("bad", x.rule(-1), BAD);
        due("to 0", x.rule(0), 1);
        due("again", x.rule(0), 0);
        refused(x, 2, 0, 0);
        x.child(0, 9, 5, 0, 60);
        x.child(0, 2, 8, 0, 60);
        due("by 0", x.limit(5, 0, 0), 9);
        x.rule(1);
        due("by 1", x.limit(5, 0, 0), 2);
        x.rule(2);
        due("by 2", x.limit(5, 0, 0), 5);
        counts(x, 2, 10, 2, 0, 0, 0);
    }

    private static void p04Sight() {
        SmallestSpeed x = begin("4 sight");
        due("to 47", x.sight(47), 10);
        due("to 0", x.sight(0), 47);
        due("bad", x.sight(48), BAD);
        due("bad", x.sight(-1), BAD);
        due("to 3", x.sight(3), 0);
        refused(x, 2, 0, 0);
        x.child(0, 4, 20, 0, 60);
        due("in sight", x.limit(17, 0, 0), 4);
        due("out of sight", x.limit(16, 0, 0), 9);
        x.sight(4);
        due("in sight then", x.limit(16, 0, 0), 4);
        counts(x, 1, 4, 0, 0, 0, 0);
    }

    private static void p05Child() {
        SmallestSpeed x = begin("5 child");
        int[][] wrong = {
            {-1, 1, 0, 0, 0}, {6, 1, 0, 0, 0}, {0, 0, 0, 0, 0}, {0, 10, 0, 0, 0}, {0, 1, -1, 0, 0}, {0, 1, 48, 0, 0},
            {0, 1, 0, -1, 0}, {0, 1, 0, 4, 0}, {0, 1, 0, 0, -1}, {0, 1, 0, 0, 61}, {MAX, 1, 0, 0, 0}, {0, MIN, 0, 0, 0}};
        for (int[] w : wrong) {
            due("wrong", x.child(w[0], w[1], w[2], w[3], w[4]), BAD);
        }
        due("least of all", x.child(0, 1, 0, 0, 0), 0);
        due("most of all", x.child(5, 9, 47, 3, 60), 1);
        for (int i = 2; i < 6; i++) {
            due("next", x.child(i, i, i, 1, i), i);
        }
        for (int[] w : wrong) {
            due("BAD is ahead of FULL", x.child(w[0], w[1], w[2], w[3], w[4]), BAD);
        }
        due("full", x.child(0, 1, 0, 0, 0), FULL);
        counts(x, 6, 10, 0, 0, 0, 0, 0);
        refused(x, 2 * wrong.length, 0, 1);
        due("kind", x.of(1, 0, 0), 5);
        due("height", x.of(1, 0, 1), 9);
        due("cell", x.of(1, 0, 2), 47);
        due("steps", x.of(1, 0, 4), 3);
        due("bed", x.of(1, 0, 5), 60);
    }

    private static void p06Stand() {
        SmallestSpeed x = begin("6 stand");
        due("no child", x.stand(0, 0), BAD);
        x.child(0, 4, 20, 1, 60);
        x.child(2, 4, 9, 2, 60);
        due("moved", x.stand(0, 30), 20);
        due("moved again", x.stand(0, 47), 30);
        due("and back", x.stand(0, 0), 47);
        due("the other", x.stand(1, 10), 9);
        due("at first", x.of(0, 0, 2), 0);
        due("then", x.of(0, 5, 2), 5);
        due("as a player", x.of(1, 5, 2), 12);
        int[][] wrong = {{-1, 0}, {2, 0}, {5, 0}, {6, 0}, {0, -1}, {0, 48}, {MAX, 0}, {0, MIN}};
        for (int[] w : wrong) {
            due("wrong", x.stand(w[0], w[1]), BAD);
        }
        refused(x, 1 + wrong.length, 0, 0);
        counts(x, 2, 10, 0, 0, 0, 4);
    }

    private static void p07Bed() {
        SmallestSpeed x = begin("7 bed");
        due("no child", x.bed(0, 0), BAD);
        x.child(0, 4, 20, 0, 60);
        x.child(0, 5, 20, 0, 11);
        due("sooner", x.bed(0, 30), 60);
        due("out yet", x.limit(20, 29, 0), 4);
        due("in bed", x.limit(20, 30, 0), 9);
        due("least", x.bed(0, 0), 30);
        due("never out", x.of(0, 0, 3), 0);
        due("most", x.bed(1, 60), 11);
        due("always out", x.of(1, 59, 3), 5);
        int[][] wrong = {{-1, 0}, {2, 0}, {6, 0}, {0, -1}, {0, 61}, {MIN, 0}, {0, MAX}};
        for (int[] w : wrong) {
            due("wrong", x.bed(w[0], w[1]), BAD);
        }
        refused(x, 1 + wrong.length, 0, 0);
        counts(x, 2, 10, 0, 0, 0, 3);
        due("bed stays", x.of(0, 0, 5), 0);
    }

    private static void p08Undo() {
        SmallestSpeed x = begin("8 undo");
        due("none", x.undo(), NO);
        x.child(0, 4, 20, 0, 60);
        x.child(1, 4, 21, 0, 50);
        due("none by a child", x.undo(), NO);
        x.stand(0, 30);
        x.bed(1, 40);
        x.rule(2);
        x.sight(5);
        due("the bed", x.undo(), 1);
        due("bed as ahead", x.of(1, 0, 5), 50);
        due("cell stays", x.of(0, 0, 2), 30);
        due("the cell", x.undo(), 0);
        due("cell as ahead", x.of(0, 0, 2), 20);
        counts(x, 2, 5, 2, 0, 0, 0);
        due("none more", x.undo(), NO);
        for (int i = 1; i <= 10; i++) {
            x.stand(0, i);
            due("how many", x.count(5), Math.min(i, 8));
        }
        for (int i = 7; i >= 0; i--) {
            due("eight at most", x.undo(), i);
        }
        due("the oldest two stay", x.of(0, 0, 2), 2);
        due("none more", x.undo(), NO);
        x.stand(0, 2);
        due("told anew, though the same", x.count(5), 1);
        x.bed(0, 60);
        x.child(2, 1, 1, 1, 1);
        due("behind a child", x.undo(), NO);
        x.stand(0, 9);
        x.child(9, 1, 1, 1, 1);
        due("a refused child hinders nothing", x.undo(), 0);
        due("as ahead", x.of(0, 0, 2), 2);
        refused(x, 1, 5, 0);
        p08UndoBoth();
    }

    private static void p08UndoBoth() {
        SmallestSpeed x = road(10, 0);
        x.child(0, 4, 20, 0, 60);
        for (int i = 0; i < 6; i++) {
            x.stand(0, i);
            x.bed(0, 10 + i);
        }
        due("eight of twelve", x.count(5), 8);
        x.undo();
        due("bed", x.of(0, 0, 5), 14);
        due("cell", x.of(0, 0, 2), 5);
        x.undo();
        due("bed", x.of(0, 0, 5), 14);
        due("cell", x.of(0, 0, 2), 4);
        for (int i = 0; i < 6; i++) {
            x.undo();
        }
        due("bed", x.of(0, 0, 5), 11);
        due("cell", x.of(0, 0, 2), 1);
        x.stand(0, 48);
        due("a refused call is not to be undone", x.undo(), NO);
        p08UndoInOrder();
    }

    private static void p08UndoInOrder() {
        SmallestSpeed x = road(10, 0);
        for (int i = 0; i < 3; i++) {
            x.child(0, 4, 20 + i, 0, 30 + i);
        }
        x.bed(2, 1);
        x.stand(2, 2);
        x.stand(1, 3);
        x.stand(0, 4);
        x.bed(0, 5);
        x.bed(1, 6);
        x.bed(2, 7);
        x.stand(1, 8);
        x.bed(0, 9);
        x.stand(2, 10);
        int[] left = {10, 9, 8, 7, 6, 5, 4, 3};
        int[] child = {2, 0, 1, 2, 1, 0, 0, 1};
        int[] what = {2, 5, 2, 5, 5, 5, 2, 2};
        int[] ahead = {2, 5, 3, 1, 31, 30, 20, 21};
        for (int i = 0; i < left.length; i++) {
            due("told", x.of(child[i], 0, what[i]), left[i]);
            due("undone", x.undo(), 7 - i);
            due("as ahead", x.of(child[i], 0, what[i]), ahead[i]);
        }
        due("the first two stay", x.of(2, 0, 5), 1);
        due("the first two stay", x.of(2, 0, 2), 2);
    }

    private static void p09Type() {
        SmallestSpeed x = begin("9 type");
        due("bad", x.type(-1), BAD);
        due("bad", x.type(128), BAD);
        due("bad", x.type(MAX), BAD);
        due("bad", x.type(MIN), BAD);
        due("least", x.type(0), 1);
        due("most", x.type(127), 2);
        for (int i = 3; i <= 150; i++) {
            due("next", x.type(32), i);
        }
        due("full", x.type(32), FULL);
        due("BAD is ahead of FULL", x.type(128), BAD);
        counts(x, 0, 10, 0, 0, 0, 0, 150);
        refused(x, 5, 0, 1);
        x.clear();
        due("again", x.type(65), 1);
    }

    private static void p10Clear() {
        SmallestSpeed x = begin("10 clear");
        due("nothing", x.clear(), 0);
        type(x, "road 1 1;");
        due("nine", x.clear(), 9);
        due("then nothing", x.clear(), 0);
        due("empty", x.read(), -10);
        counts(x, 0, 10, 0, 0, 0, 0, 0);
        refused(x, 0, 0, 0);
    }

    private static void p11Read() {
        SmallestSpeed x = begin("11 read");
        x.child(0, 1, 0, 0, 60);
        x.stand(0, 5);
        x.speed(5);
        x.reading(1, 1, 1);
        x.days(1, 1, 100);
        x.image(0);
        due("three items", readOf(x, "road 12 2;child 3 9 47 3 60;child 0 1 0 0 0;"), 3);
        counts(x, 2, 12, 2, 0, 0, 0, 44);
        due("digest", x.digest(), digestOf(2, 12, 2, 0, 0, 0, 44, 3, 9, 47, 3, 60, 0, 1, 0, 0, 0, 6, 1));
        due("undo", x.undo(), NO);
        due("read again", x.read(), 3);
        due("image stays", x.from(0), 1);
        counts(x, 1, 10, 0, 1, 1, 1, 44);
        due("blanks", readOf(x, "  road  47   0  ;  child 5 1 2 3 4 ; "), 2);
        due("sight", x.count(1), 47);
        due("law", x.count(2), 0);
        due("a road alone", readOf(x, "road 5 1;"), 1);
        counts(x, 0, 5, 1);
        due("noughts ahead", readOf(x, "road 07 01;child 00 09 00 03 06;"), 2);
        due("sight", x.count(1), 7);
        due("no blanks where none are needed", readOf(x, "road10 2;child0 1 0 0 0;"), 2);
        String six = "road 0 0;child 0 1 0 0 0;child 1 2 1 1 1;child 2 3 2 2 2;child 3 4 3 3 3;child 4 5 4 0 4;";
        due("seven items", readOf(x, six + "child 5 6 5 1 5;"), 7);
        due("last kind", x.of(5, 0, 0), 5);
        due("last height", x.of(5, 0, 1), 6);
        due("last cell", x.of(5, 0, 2), 5);
        due("last steps", x.of(5, 0, 4), 1);
        due("last bed", x.of(5, 0, 5), 5);
        due("a 7th child", readOf(x, six + "child 5 6 5 1 5; child"), -10 - (six.length() + 17));
        refused(x, 0, 1, 0);
    }

    private static void p11Faults() {
        promise = "11 read";
        due("empty", readOf(""), -10);
        due("blanks alone", readOf("   "), -13);
        due("early end", readOf("road"), -14);
        due("early end", readOf("road "), -15);
        due("early end", readOf("road 1"), -16);
        due("early end", readOf("road 1 2"), -18);
        due("early end", readOf("road 1 2;child"), -24);
        due("early end", readOf("road 1 2;child 0 1 0 0 60"), -35);
        due("early end", readOf("road 1 2;child 0 1 0 0 60  "), -37);
        due("a word that is none", readOf("roads 1 2;"), -10);
        due("a word that is none", readOf("roa"), -10);
        due("a word that is none", readOf("boad 1 2;"), -10);
        due("a word that is none", readOf("roax 1 2;"), -10);
        due("a word that is none", readOf("road 1 2;shild 0 1 0 0 60;"), -19);
        due("a word that is none", readOf("road 1 2;chil"), -19);
        due("a word that is none", readOf("road 1 2; children 0 1 0 0 60;"), -20);
        due("a word where a number is due", readOf("road one 2;"), -15);
        due("road again", readOf("road 1 2; road 1 2;"), -20);
        due("a child ahead", readOf(" child 0 1 0 0 60;"), -11);
        due("a number ahead", readOf("1"), -10);
        due("; ahead", readOf(";road 1 2;"), -10);
        due("; too soon", readOf("road 1;"), -16);
        due("; too late", readOf("road 1 2 1;"), -19);
        due("; twice", readOf("road 1 2;;"), -19);
        due("three figures", readOf("road 001 2;"), -15);
        due("three figures", readOf("road 1 002;"), -17);
        due("three figures", readOf("road 1 100"), -17);
        due("a number of too much", readOf("road 48 0;"), -15);
        due("a number of too much", readOf("road 47 3;"), -18);
        due("a byte that begins none", readOf("Road 1 2;"), -10);
        due("a byte that begins none", readOf("road -1 2;"), -15);
        due("a byte behind a number", readOf("road 1, 2;"), -16);
        due("a byte in a word", readOf("ro_ad 1 2;"), -10);
        due("a line's end", readOf("road 1 2;\n"), -19);
        due("byte 0", readOf("\0"), -10);
        String[] wrong = {"6 1 0 0 0", "0 0 0 0 0", "0 10 0 0 0", "0 1 48 0 0", "0 1 0 4 0", "0 1 0 0 61"};
        int[] places = {15, 17, 17, 19, 21, 23};
        for (int i = 0; i < wrong.length; i++) {
            due("a child's number", readOf("road 1 2;child " + wrong[i] + ";"), -10 - places[i]);
        }
    }

    private static void p11FaultsChangeNothing() {
        SmallestSpeed x = begin("11 read");
        x.child(1, 2, 3, 1, 40);
        x.stand(0, 4);
        x.speed(7);
        x.reading(1, 2, 3);
        type(x, "road 1 2;child 0 1 0 0 60;child 0 1 0 0 61;");
        long digest = x.digest();
        due("fault", x.read(), -10 - 40);
        due("all stays", x.digest(), digest);
        refused(x, 0, 0, 0);
        due("what may be undone, too", x.undo(), 0);
        due("as ahead", x.of(0, 0, 2), 3);
    }

    private static void p12Of() {
        SmallestSpeed x = begin("12 of");
        due("no child", x.of(0, 0, 0), BAD);
        x.child(4, 3, 10, 2, 50);
        int[] wants = {4, 3, 10 + 2 * 15, 4, 2, 50};
        for (int what = 0; what <= 5; what++) {
            due("what " + what, x.of(0, 15, what), wants[what]);
        }
        due("out yet", x.of(0, 49, 3), 6);
        due("in bed", x.of(0, 50, 3), 0);
        due("its cell in bed", x.of(0, 59, 2), 47);
        int[][] wrong = {{-1, 0, 0}, {1, 0, 0}, {6, 0, 0}, {0, -1, 0}, {0, 60, 0}, {0, 0, -1}, {0, 0, 6},
            {MAX, 0, 0}, {0, MIN, 0}, {0, 0, MAX}};
        for (int[] w : wrong) {
            due("wrong", x.of(w[0], w[1], w[2]), BAD);
        }
        refused(x, 1 + wrong.length, 0, 0);
    }

    private static void p12OfKinds() {
        SmallestSpeed x = begin("12 of");
        for (int kind = 0; kind <= 5; kind++) {
            x.child(kind, 8, 40, 3, 60);
        }
        int[] minutes = {0, 1, 2, 3, 14, 15, 19, 20, 21, 30, 59};
        int[][] cells = {
            {40, 43, 46, 47, 47, 47, 47, 47, 47, 47, 47},
            {40, 43, 46, 47, 47, 47, 47, 47, 47, 47, 47},
            {40, 43, 40, 43, 40, 43, 43, 40, 43, 40, 43},
            {40, 43, 46, 47, 47, 47, 47, 47, 47, 47, 47},
            {40, 43, 46, 47, 47, 47, 47, 47, 47, 47, 47},
            {40, 43, 40, 43, 40, 43, 43, 40, 43, 40, 43}};
        int[][] highs = {
            {8, 8, 8, 8, 8, 8, 8, 8, 8, 8, 8},
            {9, 9, 9, 9, 9, 9, 9, 9, 9, 9, 9},
            {8, 8, 8, 8, 8, 8, 8, 8, 8, 8, 8},
            {4, 4, 4, 4, 4, 4, 4, 4, 4, 4, 4},
            {8, 8, 8, 8, 8, 9, 9, 9, 9, 9, 9},
            {8, 8, 8, 8, 8, 8, 8, 0, 0, 0, 0}};
        for (int kind = 0; kind <= 5; kind++) {
            for (int i = 0; i < minutes.length; i++) {
                due("cell of kind " + kind + " in " + minutes[i], x.of(kind, minutes[i], 2), cells[kind][i]);
                due("high of kind " + kind + " in " + minutes[i], x.of(kind, minutes[i], 3), highs[kind][i]);
            }
        }
        p12OfSmallOnes();
    }

    private static void p12OfSmallOnes() {
        SmallestSpeed x = road(10, 0);
        x.child(1, 1, 0, 0, 60);
        x.child(3, 1, 0, 0, 60);
        x.child(3, 2, 0, 0, 60);
        x.child(4, 1, 0, 0, 60);
        x.child(2, 1, 46, 3, 60);
        x.child(1, 7, 0, 0, 60);
        due("held, 1", x.of(0, 0, 3), 3);
        due("twin, 1", x.of(1, 0, 3), 1);
        due("twin, 2", x.of(2, 0, 3), 2);
        int[] grown = {1, 2, 3, 4};
        for (int i = 0; i < 4; i++) {
            due("grows from", x.of(3, 15 * i, 3), grown[i]);
            due("grows to", x.of(3, 15 * i + 14, 3), grown[i]);
        }
        due("a player at the end", x.of(4, 7, 2), 47);
        due("a player back", x.of(4, 8, 2), 46);
        due("held, 7", x.of(5, 0, 3), 9);
    }

    // ---- limits, drives

    private static void p13LimitByLaws() {
        SmallestSpeed x = begin("13 limit");
        due("nobody", x.limit(47, 59, 0), 9);
        x.child(0, 7, 20, 0, 60);
        x.child(0, 2, 24, 0, 60);
        x.child(0, 6, 16, 0, 60);
        x.child(0, 4, 24, 0, 60);
        due("the nearest", x.limit(20, 0, 0), 7);
        due("of like near ones the lowest", x.limit(22, 0, 0), 2);
        due("the nearest though higher", x.limit(17, 0, 0), 6);
        x.rule(1);
        due("the lowest", x.limit(20, 0, 0), 2);
        due("the lowest in sight", x.limit(13, 0, 0), 6);
        due("the first alone in sight", x.limit(6, 0, 0), 6);
        x.stand(2, 47);
        due("the first alone in sight", x.limit(10, 0, 0), 7);
        x.stand(2, 16);
        x.rule(2);
        due("of 20 and 24, lower one", x.limit(20, 0, 0), (7 + 2) / 2);
        due("both in 24", x.limit(30, 0, 0), 3);
        due("cut", x.limit(17, 0, 0), (6 + 7) / 2);
        due("of one alone", x.limit(6, 0, 0), 6);
        due("nobody", x.limit(5, 0, 0), 9);
        int[][] wrong = {{-1, 0, 0}, {48, 0, 0}, {0, -1, 0}, {0, 60, 0}, {0, 0, -1}, {0, 0, 2}, {MIN, 0, 0}, {0, MAX, 0}};
        for (int[] w : wrong) {
            due("wrong", x.limit(w[0], w[1], w[2]), -10);
        }
        refused(x, wrong.length, 0, 0);
    }

    private static void p13LimitWhoIsSeen() {
        promise = "13 limit";
        SmallestSpeed x = road(3, 0);
        x.child(0, 5, 20, 0, 10);
        due("at sight's end below", x.limit(17, 0, 0), 5);
        due("beyond it", x.limit(16, 0, 0), 9);
        due("at sight's end above", x.limit(23, 0, 0), 5);
        due("beyond it", x.limit(24, 0, 0), 9);
        due("in bed", x.limit(20, 10, 0), 9);
        x.child(5, 1, 30, 1, 60);
        due("a doll", x.limit(30, 19, 0), 1);
        due("a doll no more", x.limit(30, 20, 0), 9);
        x.sight(0);
        due("in the cell alone", x.limit(31, 19, 0), 1);
        due("not beside it", x.limit(30, 19, 0), 9);
        SmallestSpeed y = road(47, 1);
        y.child(0, 9, 0, 3, 60);
        due("nine is like nobody", y.limit(0, 0, 0), 9);
        due("but seen", y.limit(47, 59, 1), 0);
        y.child(4, 1, 0, 0, 60);
        due("grows", y.limit(47, 59, 0), 4);
    }

    private static void p13LimitNearest() {
        promise = "13 limit";
        SmallestSpeed x = road(10, 1);
        due("nobody", x.limit(0, 0, 1), NONE);
        x.child(0, 7, 20, 0, 60);
        x.child(0, 3, 26, 0, 60);
        x.child(0, 3, 14, 0, 60);
        x.child(0, 1, 28, 0, 30);
        due("the nearest by any law", x.limit(21, 0, 1), 0);
        due("of like low ones the first", x.limit(20, 0, 1), 0);
        x.bed(0, 0);
        due("of like low ones the first", x.limit(20, 0, 1), 1);
        due("the lower of like near ones", x.limit(27, 0, 1), 3);
        due("when it is in bed", x.limit(27, 30, 1), 1);
        due("beyond sight", x.limit(3, 0, 1), NONE);
        due("at sight's end", x.limit(4, 0, 1), 2);
        x.rule(2);
        due("by law 2", x.limit(4, 0, 1), 2);
        refused(x, 0, 0, 0);
    }

    private static void p14Where() {
        SmallestSpeed x = begin("14 where");
        int[] cells = {0, 9, 18, 27, 36, 45, 47, 47};
        for (int i = 0; i < cells.length; i++) {
            due("free, from 0", x.where(0, i), cells[i]);
            due("free, from 30", x.where(30, 30 + i), cells[i]);
        }
        due("at the end", x.where(0, 60), 47);
        due("from the last minute", x.where(59, 60), 9);
        due("ahead", x.where(5, 4), NONE);
        due("ahead", x.where(59, 0), NONE);
        due("in the first minute", x.where(59, 59), 0);
        SmallestSpeed y = slowStart();
        due("slow", y.where(0, 11), 11);
        due("free then", y.where(0, 12), 20);
        int[][] wrong = {{-1, 0}, {60, 60}, {0, -1}, {0, 61}, {MAX, 0}, {0, MIN}, {MIN, MAX}};
        for (int[] w : wrong) {
            due("wrong", x.where(w[0], w[1]), BAD);
        }
        refused(x, wrong.length, 0, 0);
    }

    private static void p15There() {
        SmallestSpeed x = begin("15 there");
        due("free", x.there(0), 6);
        due("the last one there", x.there(54), 60);
        due("too late", x.there(55), NONE);
        due("too late", x.there(59), NONE);
        due("wrong", x.there(-1), BAD);
        due("wrong", x.there(60), BAD);
        due("wrong", x.there(MIN), BAD);
        due("wrong", x.there(MAX), BAD);
        refused(x, 4, 0, 0);
        SmallestSpeed y = slowStart();
        due("11 slow minutes, 4 free ones", y.there(0), 15);
        y.sight(47);
        due("a cell a minute", y.there(0), 47);
        due("a cell a minute", y.there(13), 60);
        due("a cell a minute", y.there(14), NONE);
        due("beside someone who walks", besideAWalker().there(0), 39);
        due("behind her", besideAWalker().there(1), 7);
    }

    /** Seen in her cell alone, she walks a cell a minute and is where a drive from minute 0 is in minute 1. */
    private static SmallestSpeed besideAWalker() {
        SmallestSpeed x = road(0, 0);
        x.child(0, 1, 8, 1, 60);
        return x;
    }

    private static void p16Soonest() {
        SmallestSpeed x = begin("16 soonest");
        due("free", x.soonest(0), 6);
        due("the last one there", x.soonest(54), 60);
        due("too late", x.soonest(55), NONE);
        due("wrong", x.soonest(-1), BAD);
        due("wrong", x.soonest(60), BAD);
        due("wrong", x.soonest(MAX), BAD);
        refused(x, 3, 0, 0);
        due("not past all", slowStart().soonest(0), 15);
        due("8 cells first", besideAWalker().soonest(0), 6);
        SmallestSpeed y = road(0, 0);
        y.child(0, 1, 9, 0, 60);
        due("into her cell", y.there(0), 7);
        due("not into her cell", y.soonest(0), 6);
        SmallestSpeed z = road(47, 0);
        z.child(0, 1, 0, 0, 60);
        due("a cell a minute", z.soonest(13), 60);
        due("a cell a minute", z.soonest(14), NONE);
    }

    private static void p17Start() {
        SmallestSpeed x = begin("17 start");
        due("free", x.start(0), 0);
        due("the last one there", x.start(54), 54);
        due("none", x.start(55), NONE);
        due("wrong", x.start(-1), BAD);
        due("wrong", x.start(60), BAD);
        due("wrong", x.start(MIN), BAD);
        refused(x, 3, 0, 0);
        due("later is sooner", besideAWalker().start(0), 1);
        due("from then on", besideAWalker().start(2), 2);
        SmallestSpeed y = slowTillFive();
        int[] ends = {10, 10, 10, 10, 11, 11, 12};
        for (int a = 0; a < ends.length; a++) {
            due("there(" + a + ")", y.there(a), ends[a]);
        }
        due("of like ones the last", y.start(0), 3);
        due("of like ones the last", y.start(4), 5);
    }

    /** As slowStart, but in bed in minute 5. */
    private static SmallestSpeed slowTillFive() {
        SmallestSpeed x = road(10, 0);
        x.child(0, 1, 0, 0, 5);
        return x;
    }

    private static void p18Speed() {
        SmallestSpeed x = begin("18 speed");
        due("wrong", x.speed(-1), BAD);
        due("wrong", x.speed(16), BAD);
        due("wrong", x.speed(MAX), BAD);
        for (int i = 1; i <= 20; i++) {
            due("next", x.speed(i % 2 == 0 ? 0 : 15), i);
        }
        due("full", x.speed(0), FULL);
        due("BAD is ahead of FULL", x.speed(16), BAD);
        counts(x, 0, 10, 0, 20);
        refused(x, 4, 0, 1);
    }

    private static void p19Stop() {
        SmallestSpeed x = begin("19 stop");
        due("none", x.stop(), 0);
        x.speed(15);
        x.speed(15);
        due("two", x.stop(), 2);
        due("none then", x.stop(), 0);
        counts(x, 0, 10, 0, 0);
        due("nothing fined", x.fined(0, 1), 0);
        due("from the first one again", x.speed(3), 1);
        refused(x, 0, 0, 0);
    }

    private static void p20FinedFirstAndFine() {
        SmallestSpeed x = begin("20 fined");
        due("no speeds", x.fined(0, 0), NONE);
        due("no speeds", x.fined(0, 1), 0);
        due("no speeds", x.fined(0, 2), 0);
        x.child(0, 3, 5, 0, 60);
        int[] speeds = {3, 4, 2, 0, 15, 9};
        for (int s : speeds) {
            x.speed(s);
        }
        due("the first", x.fined(0, 0), 1);
        due("1 and 12 more", x.fined(0, 1), 13);
        due("run past", x.fined(0, 2), 1);
        due("the last minute", x.fined(59, 0), NONE);
        due("the last minute", x.fined(59, 1), 0);
        due("two minutes", x.fined(58, 0), 1);
        due("two minutes", x.fined(58, 1), 1);
        int[][] wrong = {{-1, 0}, {60, 0}, {0, -1}, {0, 3}, {MAX, 0}, {0, MIN}};
        for (int[] w : wrong) {
            due("wrong", x.fined(w[0], w[1]), -10);
        }
        refused(x, wrong.length, 0, 0);
        SmallestSpeed y = road(0, 0);
        y.child(0, 1, 47, 0, 60);
        for (int i = 0; i < 5; i++) {
            y.speed(15);
        }
        due("the first", y.fined(0, 0), 0);
        due("6 thrice, 6 in 45, 14 in 47", y.fined(0, 1), 6 * 4 + 14);
    }

    private static void p20FinedPast() {
        SmallestSpeed x = begin("20 fined");
        x.child(0, 9, 0, 0, 60);
        x.child(0, 9, 1, 0, 60);
        x.child(0, 9, 2, 0, 60);
        x.child(0, 9, 1, 0, 1);
        x.child(5, 9, 1, 0, 60);
        x.child(2, 9, 1, 3, 60);
        x.speed(0);
        due("one stands", x.fined(0, 2), 0);
        x.stop();
        x.speed(1);
        due("from which, to which", x.fined(0, 2), 1 + 2 + 8 + 16 + 32);
        due("in bed, a player away", x.fined(1, 2), 1 + 2 + 16);
        due("a doll yet", x.fined(19, 2), 1 + 2 + 16);
        due("a doll no more", x.fined(20, 2), 1 + 2 + 32);
        x.stop();
        x.speed(2);
        due("over which", x.fined(20, 2), 1 + 2 + 4 + 32);
        x.stop();
        x.speed(0);
        x.speed(3);
        due("in the next minute", x.fined(0, 2), 1 + 2 + 4 + 16);
        pastInTheLastCell();
    }

    /** One is in cell 45 in minute 3 at 15 cells a minute; who stands in cell 47 goes no more. */
    private static void pastInTheLastCell() {
        SmallestSpeed x = road(0, 0);
        x.child(0, 9, 44, 1, 60);
        x.child(0, 9, 47, 0, 3);
        for (int i = 0; i < 5; i++) {
            x.speed(15);
        }
        due("run past on the last cells, not who is in bed", x.fined(0, 2), 1);
        due("one comes to 45 only", x.fined(57, 2), 0);
        due("of the least height, too", lowOneRunPast().fined(0, 2), 1);
        SmallestSpeed y = road(0, 0);
        y.child(2, 9, 44, 3, 60);
        int[] speeds = {15, 15, 13, 3, 1, 15, 15};
        for (int s : speeds) {
            y.speed(s);
        }
        due("the player comes to 47 where one stands", y.fined(0, 2), 0);
        due("the player is there as one comes", y.fined(1, 2), 1);
    }

    private static SmallestSpeed lowOneRunPast() {
        SmallestSpeed x = slowStart();
        x.speed(1);
        return x;
    }

    // ---- what had better be

    private static void p21ToBed() {
        SmallestSpeed x = begin("21 toBed");
        due("nobody", x.toBed(0, 6, 0), 0);
        due("nobody", x.toBed(0, 6, 1), 6);
        due("none there", x.toBed(55, 6, 1), 61);
        int[][] wrong = {{-1, 0, 0}, {60, 0, 0}, {0, -1, 0}, {0, 7, 0}, {0, 0, -1}, {0, 0, 2}, {MIN, 0, 0}, {0, MAX, 0}};
        for (int[] w : wrong) {
            due("wrong", x.toBed(w[0], w[1], w[2]), BAD);
        }
        refused(x, wrong.length, 0, 0);
        SmallestSpeed y = slowStart();
        due("none may", y.toBed(0, 0, 0), 0);
        due("none may", y.toBed(0, 0, 1), 15);
        due("she may", y.toBed(0, 1, 0), 1);
        due("she may", y.toBed(0, 1, 1), 6);
        due("nothing is changed", y.there(0), 15);
        due("too late with her", y.toBed(50, 0, 1), 61);
        due("in time without", y.toBed(50, 1, 1), 56);
        due("too late anyway", y.toBed(58, 6, 0), 0);
        SmallestSpeed z = road(47, 2);
        z.child(0, 1, 0, 0, 60);
        z.child(0, 1, 0, 0, 60);
        z.child(0, 9, 0, 0, 60);
        due("as it is", z.toBed(0, 0, 1), 47);
        due("of like ones the least bits", z.toBed(0, 1, 0), 1);
        due("5 cells a minute", z.toBed(0, 1, 1), 10);
        due("both", z.toBed(0, 2, 0), 3);
        due("9 cells a minute", z.toBed(0, 2, 1), 6);
        due("of like ones fewer", z.toBed(0, 6, 0), 3);
        SmallestSpeed w = road(10, 0);
        w.child(0, 9, 47, 0, 60);
        w.child(0, 1, 0, 0, 60);
        due("the second", w.toBed(0, 6, 0), 2);
        fewerThanLeastBits();
    }

    /** Either both low ones who walk ahead, or, fewer though more bits, the one lowest of all. */
    private static void fewerThanLeastBits() {
        SmallestSpeed x = road(47, 1);
        x.child(0, 9, 0, 0, 60);
        x.child(0, 9, 0, 0, 60);
        x.child(0, 4, 0, 0, 60);
        due("fewer, not the least bits", x.toBed(0, 3, 0), 4);
        x.child(0, 4, 0, 0, 60);
        due("one alone is of no use", x.toBed(0, 1, 0), 0);
        due("12 minutes by 4", x.toBed(0, 1, 1), 12);
        due("both", x.toBed(0, 2, 0), 12);
    }

    private static void p22Move() {
        SmallestSpeed x = begin("22 move");
        due("nobody", x.move(0), NONE);
        x.child(0, 9, 5, 0, 60);
        due("of no use", x.move(0), NONE);
        int[] wrong = {-1, 60, MIN, MAX};
        for (int w : wrong) {
            due("wrong", x.move(w), BAD);
        }
        refused(x, wrong.length, 0, 0);
        SmallestSpeed y = slowStart();
        due("to the end", y.move(0), 47);
        due("none there as it is", y.move(53), 47);
        due("none there at all", y.move(54), NONE);
        due("nothing is changed", y.of(0, 0, 2), 0);
        due("nothing is to be undone", y.count(5), 0);
        SmallestSpeed z = road(0, 0);
        z.child(0, 1, 9, 0, 60);
        due("the first cell", z.move(0), 1);
        SmallestSpeed w = road(0, 0);
        w.child(0, 1, 40, 0, 60);
        w.child(0, 1, 9, 0, 60);
        due("the second child", w.move(0), 101);
        due("she who walks along", besideAWalker().move(0), 1);
        due("not sooner", besideAWalker().move(1), NONE);
        SmallestSpeed v = road(0, 0);
        v.child(0, 1, 9, 0, 60);
        v.child(0, 1, 9, 0, 60);
        due("one alone of two is of no use", v.move(0), NONE);
        SmallestSpeed u = road(0, 0);
        u.child(2, 1, 9, 3, 60);
        due("9 in minute 2, slow", u.there(1), 8);
        due("the first cell of all, 3 in minute 1", u.move(1), 0);
    }

    private static void p23Carters() {
        SmallestSpeed x = begin("23 carters");
        due("both at once", x.carters(0, 0), 1);
        due("both at once", x.carters(0, 1), 0);
        due("the last ones", x.carters(50, 0), 1);
        due("the last ones", x.carters(50, 1), 0);
        int[][] wrong = {{-1, 0}, {51, 0}, {0, -1}, {0, 2}, {MAX, 0}, {0, MIN}};
        for (int[] w : wrong) {
            due("wrong", x.carters(w[0], w[1]), -10);
        }
        refused(x, wrong.length, 0, 0);
        due("0 0, 0 3, 1 1, 2 2, 3 0, 3 3", slowTillFive().carters(0, 0), 6);
        due("the first", slowTillFive().carters(0, 1), 0);
        due("later is sooner", besideAWalker().carters(0, 0), 1);
        due("later is sooner", besideAWalker().carters(0, 1), 11);
        SmallestSpeed y = road(47, 0);
        y.child(0, 1, 0, 0, 60);
        due("none is there", y.carters(14, 0), 36);
        due("none is there", y.carters(14, 1), 0);
        due("the first alone is", y.carters(13, 0), 1);
        due("three are", y.carters(11, 0), 1);
        noPairRests();
    }

    /** Both had better start first, and neither by less than three minutes behind the other. */
    private static void noPairRests() {
        SmallestSpeed x = road(0, 0);
        x.child(0, 1, 9, 0, 2);
        due("there(0)", x.there(0), 7);
        due("there(1)", x.there(1), 7);
        due("there(2)", x.there(2), 8);
        due("0 0, 1 1", x.carters(0, 0), 2);
        due("the first", x.carters(0, 1), 0);
        fourMinutesLater();
    }

    private static void fourMinutesLater() {
        SmallestSpeed x = road(4, 0);
        x.child(5, 7, 3, 2, 25);
        x.child(2, 8, 11, 2, 29);
        x.child(3, 2, 6, 1, 55);
        x.child(2, 9, 33, 3, 12);
        int[] ends = {32, 28, 29, 32, 33, 36};
        SmallestSpeed y = road(20, 2);
        y.child(0, 1, 45, 1, 56);
        y.child(5, 2, 34, 0, 28);
        y.child(3, 3, 15, 0, 8);
        y.child(5, 7, 2, 3, 54);
        int[] others = {41, 37, 36, 43, 44, 45};
        for (int i = 0; i < 6; i++) {
            due("there", x.there(20 + i), ends[i]);
            due("there", y.there(17 + i), others[i]);
        }
        due("0 0 rests: 68 by 1, too, 4 later; 1 1", x.carters(20, 0), 2);
        due("0 0", x.carters(20, 1), 0);
        due("0 0 does not: 60 by 2, 4 later; 1 1, 2 2", y.carters(17, 0), 2);
        due("1 1", y.carters(17, 1), 11);
    }

    // ---- what was seen

    private static void p24Reading() {
        SmallestSpeed x = begin("24 reading");
        int[][] wrong = {{-1, 0, 1}, {48, 0, 1}, {0, -1, 1}, {0, 60, 1}, {0, 0, 0}, {0, 0, 10}, {MAX, 0, 1}, {0, MIN, 1}};
        for (int[] w : wrong) {
            due("wrong", x.reading(w[0], w[1], w[2]), BAD);
        }
        due("least", x.reading(0, 0, 1), 1);
        due("most", x.reading(47, 59, 9), 2);
        for (int i = 3; i <= 6; i++) {
            due("next", x.reading(i, i, i), i);
        }
        due("full", x.reading(0, 0, 1), FULL);
        due("BAD is ahead of FULL", x.reading(0, 0, 10), BAD);
        counts(x, 0, 10, 0, 0, 6);
        refused(x, wrong.length + 1, 0, 1);
    }

    private static void p25Forget() {
        SmallestSpeed x = begin("25 forget");
        due("none", x.forget(), 0);
        x.reading(0, 0, 1);
        x.reading(0, 0, 2);
        due("no set", x.out(0), 0);
        due("two", x.forget(), 2);
        due("none then", x.forget(), 0);
        due("the empty set", x.out(0), 1);
        counts(x, 0, 10, 0, 0, 0);
        due("from the first one again", x.reading(0, 0, 1), 1);
        refused(x, 0, 0, 0);
    }

    private static void p26Out() {
        SmallestSpeed x = begin("26 out");
        due("nobody", x.out(0), 1);
        due("nobody", x.out(1), 0);
        x.child(0, 3, 10, 0, 60);
        x.child(0, 5, 30, 0, 30);
        due("all sets", x.out(0), 4);
        due("nobody in all", x.out(1), 0);
        x.reading(10, 0, 3);
        due("with the first", x.out(0), 2);
        due("the first", x.out(1), 1);
        x.reading(30, 30, 9);
        due("in bed, no matter", x.out(0), 2);
        x.reading(30, 0, 9);
        due("without the second", x.out(0), 1);
        due("the first", x.out(1), 1);
        x.reading(30, 29, 5);
        due("no set", x.out(0), 0);
        due("no set", x.out(1), NONE);
        int[] wrong = {-1, 2, MIN, MAX};
        for (int w : wrong) {
            due("wrong", x.out(w), -10);
        }
        refused(x, wrong.length, 0, 0);
        SmallestSpeed y = road(10, 0);
        y.child(5, 3, 10, 0, 60);
        y.reading(10, 20, 9);
        due("a doll, no matter", y.out(0), 2);
        due("a doll, no matter", y.out(1), 0);
        y.reading(10, 19, 3);
        due("the doll", y.out(1), 1);
        SmallestSpeed z = road(10, 2);
        z.child(0, 3, 10, 0, 60);
        z.child(0, 5, 10, 0, 60);
        z.child(0, 4, 10, 0, 60);
        z.reading(10, 0, 4);
        due("4 alone, 3 and 5, 4 and 5", z.out(0), 3);
        due("nobody in all", z.out(1), 0);
        SmallestSpeed w = road(10, 0);
        for (int i = 0; i < 6; i++) {
            w.child(0, 9, i, 0, 60);
        }
        due("all of 64", w.out(0), 64);
        w.child(0, 9, 0, 0, 60);
        w.reading(0, 0, 8);
        due("none of 64", w.out(0), 0);
    }

    private static void p27Look() {
        SmallestSpeed x = begin("27 look");
        due("the empty set alone", x.look(0), 0);
        int[] wrong = {-1, 60, MIN, MAX};
        for (int w : wrong) {
            due("wrong", x.look(w), BAD);
        }
        refused(x, wrong.length, 0, 0);
        x.reading(0, 0, 8);
        due("no set", x.look(0), NONE);
        SmallestSpeed y = road(5, 0);
        y.child(0, 3, 20, 0, 30);
        due("the first in sight", y.look(0), 15);
        due("in bed", y.look(30), 0);
        y.child(0, 5, 30, 0, 60);
        due("two by two", y.look(0), 15);
        due("the other one", y.look(30), 25);
        y.rule(2);
        due("one by one", y.look(0), 25);
        y.reading(20, 0, 9);
        due("the first was not out", y.look(0), 25);
        y.reading(30, 0, 5);
        due("one set alone", y.look(0), 0);
        SmallestSpeed z = road(5, 0);
        z.child(0, 9, 20, 0, 60);
        due("like nobody", z.look(0), 0);
        z.child(0, 8, 47, 3, 60);
        due("at the end", z.look(59), 42);
        z.sight(0);
        due("in the last cell", z.look(59), 47);
    }

    private static void p28Dolls() {
        SmallestSpeed x = begin("28 dolls");
        due("nobody", x.dolls(), 0);
        x.child(0, 3, 10, 0, 60);
        x.child(0, 5, 10, 0, 60);
        due("no readings", x.dolls(), 3);
        x.reading(10, 20, 5);
        due("the lower one", x.dolls(), 1);
        x.reading(10, 19, 3);
        due("counts ahead of 20", x.dolls(), 1);
        x.reading(10, 59, 9);
        due("not both", x.dolls(), 0);
        due("kinds stay", x.of(0, 0, 0), 0);
        refused(x, 0, 0, 0);
        SmallestSpeed y = road(10, 0);
        y.child(1, 3, 10, 0, 60);
        y.reading(10, 0, 3);
        due("no 2 more as a doll", y.dolls(), 1);
        due("but as she is", y.out(0), 0);
        SmallestSpeed z = road(0, 0);
        z.child(0, 4, 6, 3, 60);
        z.child(5, 4, 6, 3, 60);
        z.reading(9, 11, 4);
        due("steps as a player; the other is one as she is", z.dolls(), 3);
        z.reading(39, 11, 9);
        due("not as a walker", z.dolls(), 1);
        z.reading(9, 21, 9);
        due("the other counts no more, too", z.dolls(), 1);
    }

    private static void p29Days() {
        SmallestSpeed x = begin("29 days");
        due("nobody", x.days(5, 3, 50), 1);
        fraction(x, 6, 1);
        due("BAD is ahead of NO", x.days(-1, 0, 0), BAD);
        due("no days", x.days(0, 0, 0), NO);
        fraction(x, 6, 1);
        int[][] wrong = {{-1, 1, 0}, {1000000, 1, 0}, {0, -1, 0}, {0, 31, 0}, {0, 1, -1}, {0, 1, 101}, {MAX, 1, 0},
            {0, MIN, 0}, {0, 1, MAX}, {0, 0, 101}};
        for (int[] w : wrong) {
            due("wrong", x.days(w[0], w[1], w[2]), BAD);
        }
        refused(x, 1 + wrong.length, 1, 0);
        fraction(x, 6, 1);
        daysOfOne();
        daysOfTwo();
    }

    /** By seed 1 the draws are 38, 58, 13, 15, 51, 27, 10, 19, 12, 86; she is 15 minutes well, 6 sick. */
    private static void daysOfOne() {
        SmallestSpeed x = slowStart();
        x.days(1, 4, 40);
        fraction(x, 6 + 15 + 6 + 6, 4);
        x.days(1, 4, 38);
        fraction(x, 21, 2);
        x.days(1, 4, 39);
        fraction(x, 33, 4);
        x.days(1, 10, 20);
        fraction(x, (5 * 15 + 5 * 6) / 5, 2);
        x.days(1, 2, 0);
        fraction(x, 15, 1);
        x.days(999999, 30, 100);
        fraction(x, 6, 1);
        x.days(0, 1, 1);
        fraction(x, 6, 1);
        x.days(0, 1, 0);
        fraction(x, 15, 1);
        due("nothing is changed", x.there(0), 15);
        refused(x, 0, 0, 0);
    }

    private static void daysOfTwo() {
        SmallestSpeed x = road(10, 0);
        x.child(0, 9, 47, 0, 60);
        x.child(0, 1, 0, 0, 60);
        x.days(1, 1, 50);
        fraction(x, 15, 1);
        x.days(1, 2, 15);
        fraction(x, 15, 1);
        x.days(1, 2, 16);
        fraction(x, 21, 2);
        x.days(1, 5, 20);
        fraction(x, 15 + 6 + 15 + 6 + 15, 5);
        SmallestSpeed y = slowStart();
        y.child(0, 9, 47, 0, 60);
        y.days(1, 1, 20);
        fraction(y, 15, 1);
        y.days(1, 2, 14);
        fraction(y, 21, 2);
    }

    private static void fraction(SmallestSpeed x, long above, long below) {
        due("above", x.part(0), above);
        due("below", x.part(1), below);
    }

    // ---- what there is

    private static void p30Part() {
        SmallestSpeed x = begin("30 part");
        fraction(x, 0, 1);
        due("wrong", x.part(-1), BAD);
        due("wrong", x.part(2), BAD);
        due("wrong", x.part(MAX), BAD);
        refused(x, 3, 0, 0);
        x.child(0, 1, 0, 0, 60);
        x.days(1, 4, 38);
        fraction(x, 21, 2);
    }

    private static void p31Image() {
        SmallestSpeed x = begin("31 image");
        due("wrong", x.image(-1), BAD);
        due("wrong", x.image(2), BAD);
        due("wrong", x.image(MIN), BAD);
        refused(x, 3, 0, 0);
        x.child(1, 2, 3, 1, 50);
        long first = x.digest();
        due("kept", x.image(0), 1);
        x.stand(0, 8);
        x.speed(3);
        long second = x.digest();
        due("the other", x.image(1), 1);
        due("none is changed by keeping", x.digest(), second);
        x.road(1, 1);
        due("first", x.from(0), 1);
        due("first", x.digest(), first);
        due("second", x.from(1), 1);
        due("second", x.digest(), second);
        due("kept anew", x.image(0), 1);
        x.road(1, 1);
        x.from(0);
        due("the newer", x.digest(), second);
    }

    private static void p32From() {
        SmallestSpeed x = begin("32 from");
        due("wrong", x.from(-1), BAD);
        due("wrong", x.from(2), BAD);
        due("none kept", x.from(0), NO);
        x.sight(7);
        x.rule(2);
        x.child(1, 2, 3, 1, 50);
        x.stand(0, 4);
        x.bed(0, 40);
        x.speed(6);
        x.reading(7, 8, 9);
        x.image(1);
        due("none kept in 0", x.from(0), NO);
        x.road(20, 1);
        x.child(5, 5, 5, 3, 5);
        x.child(5, 5, 5, 3, 5);
        x.speed(1);
        x.speed(2);
        type(x, "abc");
        x.days(3, 1, 0);
        due("back", x.from(1), 1);
        counts(x, 1, 7, 2, 1, 1, 2, 3);
        due("digest", x.digest(), digestOf(1, 7, 2, 1, 1, 2, 3, 1, 2, 4, 1, 40, 6, 7, 8, 9, x.part(0), x.part(1)));
        due("not as at first", x.part(0) > 0 ? 1 : 0, 1);
        refused(x, 2, 2, 0);
        due("undo", x.undo(), 1);
        due("bed", x.of(0, 0, 5), 50);
        x.stand(0, 20);
        due("the image stays", x.from(1), 1);
        due("as kept", x.of(0, 0, 5), 40);
        due("undo", x.undo(), 1);
        due("undo", x.undo(), 0);
        due("cell", x.of(0, 0, 2), 3);
        x.from(1);
        x.child(0, 1, 1, 1, 1);
        x.from(1);
        due("children as kept", x.count(0), 1);
        due("image 0 is not 1", x.from(0), NO);
        undoOfAnImage();
    }

    private static void undoOfAnImage() {
        SmallestSpeed x = road(10, 0);
        x.child(0, 1, 20, 0, 30);
        x.child(0, 1, 21, 0, 31);
        x.stand(1, 5);
        x.bed(0, 6);
        x.image(0);
        x.undo();
        x.undo();
        x.bed(0, 7);
        x.stand(1, 8);
        x.from(0);
        due("undo", x.undo(), 1);
        due("the bed", x.of(0, 0, 5), 30);
        due("the cell yet", x.of(1, 0, 2), 5);
        due("undo", x.undo(), 0);
        due("the cell", x.of(1, 0, 2), 21);
        due("the other's cell", x.of(0, 0, 2), 20);
        due("the other's bed", x.of(1, 0, 5), 31);
    }

    private static void p33Status() {
        SmallestSpeed x = begin("33 status");
        refused(x, 0, 0, 0);
        due("another what", x.status(3), -1);
        due("another what", x.status(-1), -1);
        due("another what", x.status(MAX), -1);
        refused(x, 3, 0, 0);
        x.undo();
        refused(x, 3, 1, 0);
        for (int i = 0; i < 8; i++) {
            x.reading(1, 1, 1);
        }
        refused(x, 3, 1, 2);
        x.limit(99, 0, 0);
        x.fined(99, 0);
        x.carters(99, 0);
        x.out(99);
        x.part(99);
        x.count(99);
        refused(x, 9, 1, 2);
        due("a fault is not refused", readOf(x, "road 99"), -15);
        x.where(5, 4);
        x.there(59);
        x.look(0);
        x.move(0);
        refused(x, 9, 1, 2);
        x.image(0);
        x.undo();
        x.from(0);
        x.road(1, 1);
        readOf(x, "road 1 1;");
        refused(x, 9, 2, 2);
    }

    private static void p34Count() {
        SmallestSpeed x = begin("34 count");
        x.road(33, 1);
        x.child(0, 1, 1, 1, 1);
        x.child(0, 1, 1, 1, 1);
        for (int i = 0; i < 3; i++) {
            x.speed(1);
        }
        for (int i = 0; i < 4; i++) {
            x.reading(1, 1, 1);
        }
        for (int i = 0; i < 5; i++) {
            x.bed(0, 1);
        }
        type(x, "123456");
        counts(x, 2, 33, 1, 3, 4, 5, 6);
        due("wrong", x.count(-1), BAD);
        due("wrong", x.count(7), BAD);
        due("wrong", x.count(MIN), BAD);
        refused(x, 3, 0, 0);
    }

    private static void p35Digest() {
        SmallestSpeed x = begin("35 digest");
        x.road(33, 1);
        x.child(5, 9, 47, 3, 60);
        x.child(1, 2, 3, 0, 4);
        x.stand(0, 20);
        x.speed(15);
        x.speed(7);
        x.reading(11, 12, 3);
        x.reading(14, 15, 6);
        type(x, "xy");
        due("digest", x.digest(), digestOf(2, 33, 1, 2, 2, 1, 2, 5, 9, 20, 3, 60, 1, 2, 3, 0, 4, 15, 7,
                11, 12, 3, 14, 15, 6, 0, 1));
        x.forget();
        x.stop();
        x.days(1, 1, 100);
        due("digest", x.digest(), digestOf(2, 33, 1, 0, 0, 1, 2, 5, 9, 20, 3, 60, 1, 2, 3, 0, 4, 6, 1));
        due("the same again", x.digest(), x.digest());
        refused(x, 0, 0, 0);
    }

    private static void constants() {
        promise = "face";
        due("NONE", SmallestSpeed.NONE, -1);
        due("BAD", SmallestSpeed.BAD, -2);
        due("NO", SmallestSpeed.NO, -3);
        due("FULL", SmallestSpeed.FULL, -4);
    }
}
