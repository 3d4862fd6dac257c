/** Each promise by hand: ordinary inputs, the edges that the document names, and wrong inputs. */
public final class PromisesTest {
    private static int wrong = 0;

    private static void due(int promise, String call, int got, int want) {
        if (got != want) {
            wrong++;
            System.out.println("promise " + promise + ": " + call + " answered " + got + ", due is " + want);
        }
    }

    private static void due(int promise, String call, boolean got, boolean want) {
        due(promise, call, got ? 1 : 0, want ? 1 : 0);
    }

    public static void main(String[] args) {
        newObject();
        mark();
        line();
        stands();
        colourAndFrom();
        seam();
        gang();
        putRefusals();
        putDrynessAndGround();
        day();
        square();
        least();
        feed();
        hallAndFaultStates();
        faultPlaces();
        contractsThatHold();
        week();
        weekTests();
        hallOf();
        room();
        minute();
        minuteLimits();
        crowd();
        count();
        System.out.println(wrong == 0 ? "all answers are as due" : wrong + " answers are not as due");
        if (wrong != 0) {
            System.exit(1);
        }
    }

    private static void newObject() {
        PanoramaHouse x = new PanoramaHouse();
        int coloured = 0;
        for (int column = 0; column < 360; column++) {
            for (int row = 0; row < 20; row++) {
                coloured += x.colour(column, row) == 0 && x.from(column, row) == -1 ? 0 : 1;
            }
        }
        due(1, "places that are coloured", coloured, 0);
        int[] square = {3, 0, -1, 0, -1, -1, -1};
        for (int what = 0; what < square.length; what++) {
            due(1, "square(5, " + what + ")", x.square(5, what), square[what]);
        }
        int[] crowd = {0, 0, 0, 0, 0, 40};
        for (int what = 0; what < crowd.length; what++) {
            due(1, "crowd(" + what + ")", x.crowd(what), crowd[what]);
            due(1, "count(" + what + ")", x.count(what), 0);
            due(1, "hallOf(0, " + what + ")", x.hallOf(0, what), -1);
        }
        due(1, "fault()", x.fault(), -1);
        PanoramaHouse other = new PanoramaHouse();
        other.mark(0, 20, 0, 1);
        due(1, "colour(0, 0) of another object", x.colour(0, 0), 0);
    }

    private static void mark() {
        PanoramaHouse x = new PanoramaHouse();
        due(2, "mark(0, 0, 0, 1)", x.mark(0, 0, 0, 1), true);
        due(2, "mark(11, 39, 19, 7)", x.mark(11, 39, 19, 7), true);
        int[][] refused = {
            {-1, 0, 0, 1}, {12, 0, 0, 1}, {0, -1, 0, 1}, {0, 40, 0, 1}, {0, 0, -1, 1}, {0, 0, 20, 1},
            {0, 0, 0, -1}, {0, 0, 0, 8},
            {Integer.MIN_VALUE, 0, 0, 1}, {0, Integer.MAX_VALUE, 0, 1}, {0, 0, Integer.MIN_VALUE, 1},
            {0, 0, 0, Integer.MAX_VALUE},
        };
        for (int[] m : refused) {
            due(2, "mark(" + m[0] + ", " + m[1] + ", " + m[2] + ", " + m[3] + ")", x.mark(m[0], m[1], m[2], m[3]), false);
        }
        due(2, "colour(341, 0)", x.colour(341, 0), 1);
        due(2, "colour(348, 13)", x.colour(348, 13), 7);
        due(2, "count(4)", x.count(4), 2);
        due(2, "mark(0, 0, 0, 0)", x.mark(0, 0, 0, 0), true);
        due(2, "colour(341, 0)", x.colour(341, 0), 0);
        due(2, "mark(0, 0, 0, 0) again", x.mark(0, 0, 0, 0), true);
        due(2, "count(4)", x.count(4), 1);
    }

    private static void line() {
        PanoramaHouse x = new PanoramaHouse();
        due(3, "a line of one point", x.line(0, 20, 3, 20, 3, 5), 1);
        due(3, "colour(0, 3)", x.colour(0, 3), 5);
        due(3, "a line up", x.line(1, 20, 0, 20, 19, 2), 20);
        due(3, "count(4)", x.count(4), 21);
        // From 22, 2 to 19, 1: h goes 2, 1.66, 1.33, 1, so by cutting downwards 2, 1, 1, 1.
        due(3, "a line back and down", x.line(2, 22, 2, 19, 1, 6), 4);
        due(3, "colour(62, 2)", x.colour(62, 2), 0);
        due(3, "colour(62, 1)", x.colour(62, 1), 6);
        due(3, "colour(61, 1)", x.colour(61, 1), 0);
        due(3, "colour(61, 0)", x.colour(61, 0), 6);
        due(3, "colour(60, 1)", x.colour(60, 1), 6);
        due(3, "colour(59, 0)", x.colour(59, 0), 6);
        // Steep: from 21, 0 to 20, 5: u goes 21, 20.8 .. 20.2, 20, so cut 21, 20, 20, 20, 20, 20.
        due(3, "a steep line", x.line(3, 21, 0, 20, 5, 7), 6);
        due(3, "colour(91, 0)", x.colour(91, 0), 7);
        for (int row = 1; row <= 5; row++) {
            due(3, "colour(90, " + row + ")", x.colour(90, row), 7);
        }
        due(3, "a line of two points", x.line(5, 20, 0, 21, 1, 3), 2);
        due(3, "colour(150, 0)", x.colour(150, 0), 3);
        due(3, "colour(151, 0)", x.colour(151, 0), 3);
        due(3, "the longest line", x.line(4, 39, 19, 0, 0, 1), 40);
        due(3, "a line of 0 takes away", x.line(1, 20, 0, 20, 19, 0), 20);
        due(3, "colour(30, 7)", x.colour(30, 7), 0);
        int before = x.count(4);
        int[][] refused = {
            {-1, 0, 0, 1, 1, 1}, {12, 0, 0, 1, 1, 1}, {6, -1, 0, 1, 1, 1}, {6, 40, 0, 1, 1, 1}, {6, 0, -1, 1, 1, 1},
            {6, 0, 20, 1, 1, 1}, {6, 0, 0, -1, 1, 1}, {6, 0, 0, 40, 1, 1}, {6, 0, 0, 1, -1, 1}, {6, 0, 0, 1, 20, 1},
            {6, 0, 0, 1, 1, -1}, {6, 0, 0, 1, 1, 8}, {6, 0, 0, Integer.MAX_VALUE, Integer.MIN_VALUE, 1},
        };
        for (int[] r : refused) {
            due(3, "line to be refused", x.line(r[0], r[1], r[2], r[3], r[4], r[5]), -1);
        }
        due(3, "count(4) after refusals", x.count(4), before);
    }

    private static void stands() {
        PanoramaHouse x = new PanoramaHouse();
        // u, its column of view 0, and the row of h 19.
        int[][] known = {
            {0, 341, 13}, {1, 342, 13}, {2, 342, 14}, {3, 343, 14}, {19, 359, 18}, {20, 0, 19}, {21, 1, 18},
            {37, 17, 14}, {38, 18, 14}, {39, 18, 13},
        };
        for (int[] k : known) {
            due(4, "stands(0, " + k[0] + ", 19, 0)", x.stands(0, k[0], 19, 0), k[1]);
            due(4, "stands(0, " + k[0] + ", 19, 1)", x.stands(0, k[0], 19, 1), k[2]);
            due(4, "stands(11, " + k[0] + ", 19, 0)", x.stands(11, k[0], 19, 0), (k[1] + 330) % 360);
        }
        due(4, "stands(0, 0, 0, 2)", x.stands(0, 0, 0, 2), -1);
        due(4, "stands(0, 0, 0, -1)", x.stands(0, 0, 0, -1), -1);
        due(4, "stands(-1, 0, 0, 0)", x.stands(-1, 0, 0, 0), -1);
        due(4, "stands(12, 0, 0, 1)", x.stands(12, 0, 0, 1), -1);
        due(4, "stands(0, -1, 0, 0)", x.stands(0, -1, 0, 0), -1);
        due(4, "stands(0, 40, 0, 1)", x.stands(0, 40, 0, 1), -1);
        due(4, "stands(0, 0, -1, 0)", x.stands(0, 0, -1, 0), -1);
        due(4, "stands(0, 0, 20, 0)", x.stands(0, 0, 20, 0), -1);
    }

    private static void colourAndFrom() {
        PanoramaHouse x = new PanoramaHouse();
        // Of u 38 and 39, which stand in one column, the greater counts; of u alone the greater h.
        x.mark(0, 38, 0, 1);
        due(5, "u 38 alone", x.colour(18, 0), 1);
        x.mark(0, 39, 0, 2);
        due(5, "u 39 before 38", x.colour(18, 0), 2);
        x.mark(0, 39, 1, 3);
        due(5, "h 1 before h 0 of one u", x.colour(18, 0), 3);
        x.mark(0, 38, 1, 4);
        due(5, "the greater u before the greater h", x.colour(18, 0), 3);
        x.mark(0, 39, 1, 0);
        due(5, "0 does not count", x.colour(18, 0), 2);
        x.mark(0, 39, 0, 0);
        due(5, "back to u 38, h 1", x.colour(18, 0), 4);
        due(6, "its view", x.from(18, 0), 0);
        // Column 18 is nearer to view 1, which counts before view 0 once it has a colour there.
        x.mark(1, 8, 0, 6);
        due(5, "the nearer view", x.colour(18, 0), 6);
        due(6, "the nearer view", x.from(18, 0), 1);
        // Column 345 lies 15 from view 11 and from view 0, the lesser.
        x.mark(11, 35, 5, 1);
        due(6, "view 11 alone at 345", x.from(345, 4), 11);
        x.mark(0, 5, 5, 2);
        due(5, "the lesser of two as near", x.colour(345, 4), 2);
        due(6, "the lesser of two as near", x.from(345, 4), 0);
        // Column 75 lies 15 from view 2 and view 3.
        x.mark(3, 5, 0, 5);
        x.mark(2, 35, 0, 4);
        due(5, "colour(75, 0)", x.colour(75, 0), 4);
        due(6, "from(75, 0)", x.from(75, 0), 2);
        due(6, "a place of 0", x.from(200, 10), -1);
        int[][] refused = {{-1, 0}, {360, 0}, {0, -1}, {0, 20}, {Integer.MAX_VALUE, 0}, {0, Integer.MIN_VALUE}};
        for (int[] r : refused) {
            due(5, "colour(" + r[0] + ", " + r[1] + ")", x.colour(r[0], r[1]), -1);
            due(6, "from(" + r[0] + ", " + r[1] + ")", x.from(r[0], r[1]), -1);
        }
    }

    private static void seam() {
        PanoramaHouse x = new PanoramaHouse();
        x.mark(11, 35, 0, 1);
        due(7, "one view alone", x.seam(11), 0);
        x.mark(0, 5, 0, 1);
        due(7, "the same colour", x.seam(11), 0);
        x.mark(0, 5, 0, 2);
        due(7, "another colour: 0 stands behind 11", x.seam(11), 1);
        due(7, "the seam is told of the view before it", x.seam(0), 0);
        // The seam's outermost columns: 11 (the next view's u 0) and 18 (u 39 of the view itself).
        x.mark(4, 31, 0, 3);
        x.mark(5, 0, 0, 4);
        due(7, "column 131", x.seam(4), 1);
        x.mark(4, 39, 0, 3);
        x.mark(5, 8, 0, 4);
        due(7, "column 138", x.seam(4), 2);
        due(7, "seam(-1)", x.seam(-1), -1);
        due(7, "seam(12)", x.seam(12), -1);
    }

    private static void gang() {
        PanoramaHouse x = new PanoramaHouse();
        due(8, "gang(0)", x.gang(0), -1);
        due(8, "gang(-5)", x.gang(-5), -1);
        due(8, "gang(21)", x.gang(21), -1);
        for (int i = 0; i < 6; i++) {
            due(8, "gang " + i, x.gang(i == 0 ? 1 : 20), i);
        }
        due(8, "a seventh gang", x.gang(5), -1);
        due(8, "count(1)", x.count(1), 6);
    }

    private static void putRefusals() {
        PanoramaHouse x = new PanoramaHouse();
        due(9, "no gang", x.put(0, 36), -2);
        x.gang(3);
        x.gang(1);
        due(9, "gang -1", x.put(-1, 36), -2);
        due(9, "gang 2", x.put(2, 36), -2);
        due(9, "square -1", x.put(0, -1), -2);
        due(9, "square 72", x.put(0, 72), -2);
        due(9, "a sky before its ground", x.put(0, 0), -7);
        due(9, "the first coat", x.put(0, 36), 1);
        due(9, "none such goes before a gang that isn't free", x.put(0, 72), -2);
        due(9, "the gang isn't free", x.put(0, 37), -3);
        due(9, "not free goes before taken", x.put(0, 36), -3);
        due(9, "a gang is on it", x.put(1, 36), -5);
        due(9, "a sky while its ground is painted", x.put(1, 0), -7);
        due(9, "the last square", x.put(1, 71), 1);
    }

    private static void putDrynessAndGround() {
        PanoramaHouse x = new PanoramaHouse();
        x.gang(20);
        x.gang(1);
        x.put(0, 36);
        x.day();
        due(9, "not dry on day 1", x.put(0, 36), -6);
        due(9, "the sky's first coat", x.put(0, 0), 1);
        x.day();
        due(9, "not dry on day 2", x.put(0, 36), -6);
        x.day();
        due(9, "the sky isn't dry, which goes before its ground", x.put(0, 0), -6);
        due(9, "dry on day 3", x.put(1, 36), 2);
        due(9, "the second coat's work is half, cut", x.square(36, 3), 1);
        due(9, "a gang is on the second coat", x.put(0, 36), -5);
        due(9, "its coats", x.square(36, 1), 1);
        PanoramaHouse y = new PanoramaHouse();
        y.gang(20);
        y.put(0, 36);
        y.day();
        y.put(0, 0);
        for (int i = 0; i < 4; i++) {
            y.day();
        }
        due(9, "dry, but the ground has one coat", y.put(0, 0), -7);
        due(9, "the ground's second coat", y.put(0, 36), 2);
        y.day();
        due(9, "the sky's second coat", y.put(0, 0), 2);
        y.day();
        due(9, "both coats of the sky", y.put(0, 0), -4);
        due(9, "both coats of the ground", y.put(0, 36), -4);
        due(9, "count(5)", y.count(5), 2);
    }

    private static void day() {
        PanoramaHouse x = new PanoramaHouse();
        x.gang(2);
        x.gang(3);
        x.put(0, 40);
        x.put(1, 50);
        due(10, "day()", x.day(), 1);
        due(10, "work left", x.square(40, 3), 1);
        due(10, "work done to the last", x.square(50, 3), 0);
        due(10, "done on the day that went by", x.square(50, 4), 0);
        due(10, "its gang is free", x.put(1, 51), 1);
        due(10, "day()", x.day(), 2);
        due(10, "no work is left over", x.square(40, 3), 0);
        due(10, "done on day 1", x.square(40, 4), 1);
        due(10, "count(0)", x.count(0), 2);
        // The last day lies behind call 512, where answers are free; the rule is kept all the same.
        PanoramaHouse y = new PanoramaHouse();
        for (int i = 1; i <= 1000; i++) {
            due(10, "day " + i, y.day(), i);
        }
        due(10, "behind the last day", y.day(), -1);
        due(10, "doing nothing", y.count(0), 1000);
    }

    private static void square() {
        PanoramaHouse x = new PanoramaHouse();
        // Column 9 and 10, row 9 and 10: the corners of four squares.
        x.mark(0, 29, 10, 1);
        x.mark(0, 29, 11, 1);
        x.mark(0, 30, 10, 1);
        x.mark(0, 30, 11, 1);
        due(11, "square(36, 0)", x.square(36, 0), 4);
        due(11, "square(37, 0)", x.square(37, 0), 4);
        due(11, "square(0, 0)", x.square(0, 0), 4);
        due(11, "square(1, 0)", x.square(1, 0), 4);
        x.line(0, 20, 0, 29, 0, 3);
        due(11, "square(36, 0)", x.square(36, 0), 14);
        x.gang(20);
        x.gang(5);
        x.put(1, 36);
        due(11, "the gang on it", x.square(36, 2), 1);
        due(11, "work to be done", x.square(36, 3), 14);
        due(11, "none did it yet", x.square(36, 6), -1);
        x.line(0, 20, 0, 29, 0, 0);
        due(11, "the work of a first coat now", x.square(36, 0), 4);
        due(11, "the work was told as the coat began", x.square(36, 3), 14);
        x.day();
        x.day();
        x.day();
        due(11, "coats done", x.square(36, 1), 1);
        due(11, "no gang on it", x.square(36, 2), -1);
        due(11, "first coat's day", x.square(36, 4), 2);
        due(11, "no second coat's day", x.square(36, 5), -1);
        due(11, "who did it", x.square(36, 6), 1);
        x.day();
        x.day();
        due(11, "the second coat", x.put(0, 36), 2);
        due(11, "half of the work there is now", x.square(36, 3), 2);
        due(11, "gang 1 was the last still", x.square(36, 6), 1);
        x.day();
        due(11, "both coats", x.square(36, 1), 2);
        due(11, "first coat's day stays", x.square(36, 4), 2);
        due(11, "second coat's day", x.square(36, 5), 5);
        due(11, "who did it last", x.square(36, 6), 0);
        due(11, "square(36, 7)", x.square(36, 7), -1);
        due(11, "square(36, -1)", x.square(36, -1), -1);
        due(11, "square(-1, 0)", x.square(-1, 0), -1);
        due(11, "square(72, 1)", x.square(72, 1), -1);
        due(11, "square(71, 0)", x.square(71, 0), 3);
    }

    private static void least() {
        PanoramaHouse x = new PanoramaHouse();
        due(12, "no gangs", x.least(0, 1, 1), -1);
        x.gang(1);
        x.gang(1);
        x.gang(20);
        x.gang(20);
        due(12, "one square, one gang", x.least(0, 1, 1), 3);
        due(12, "six squares, one gang", x.least(0, 6, 1), 18);
        due(12, "six squares, two gangs", x.least(66, 6, 2), 9);
        due(12, "six squares, the third gang does them all", x.least(66, 6, 3), 1);
        // Works 8, 3, 3: by numbers to the gang that has least it would be 8 and 6.
        x.line(0, 20, 0, 24, 0, 1);
        due(12, "works 8, 3, 3", x.least(36, 3, 2), 8);
        due(12, "works 8, 3, 3, 3, 3", x.least(36, 5, 2), 11);
        int[][] refused = {
            {-1, 1, 1}, {72, 1, 1}, {71, 2, 1}, {67, 6, 1}, {0, 0, 1}, {0, 7, 1}, {0, 1, 0}, {0, 1, 4},
            {Integer.MAX_VALUE, 6, 1}, {0, -1, 1}, {0, 1, -1},
        };
        for (int[] r : refused) {
            due(12, "least(" + r[0] + ", " + r[1] + ", " + r[2] + ")", x.least(r[0], r[1], r[2]), -1);
        }
        due(12, "least(71, 1, 1)", x.least(71, 1, 1), 3);
        PanoramaHouse y = new PanoramaHouse();
        y.gang(2);
        due(12, "cut up", y.least(0, 3, 1), 5);
        due(12, "fewer gangs than asked", y.least(0, 3, 2), -1);
    }

    private static void feed() {
        PanoramaHouse x = new PanoramaHouse();
        due(13, "hall(1) of an empty tape", x.hall(1), -2);
        for (int i = 1; i <= 30; i++) {
            due(13, "feed " + i, x.feed(0x20202020, 0x20202020, 0x20202020, 0x20202020, 0x20202020), 20 * i);
        }
        due(13, "feed 31", x.feed(1, 2, 3, 4, 5), -1);
        due(13, "count(3)", x.count(3), 600);
        due(13, "600 blanks", x.hall(600), 0);
        // The highest byte comes first: "rent" and " 12;", then "weeks 7;".
        due(13, "feed", x.feed(0x72656E74, 0x2031323B, 0x7765656B, 0x7320373B, 0xFF414243), 20);
        due(13, "hall(16)", x.hall(16), 1);
        due(13, "its rent", x.hallOf(1, 5), 12);
        due(13, "its weeks", x.hallOf(1, 0), 7);
    }

    /** Feeds a text, filled up with blanks, and reads all of it that isn't filling. */
    private static int contract(PanoramaHouse x, String text) {
        StringBuilder filled = new StringBuilder(text);
        while (filled.length() % 20 != 0) {
            filled.append(' ');
        }
        int[] n = new int[5];
        for (int at = 0; at < filled.length(); at += 20) {
            for (int i = 0; i < 5; i++) {
                n[i] = 0;
                for (int j = 0; j < 4; j++) {
                    n[i] = n[i] << 8 | filled.charAt(at + 4 * i + j);
                }
            }
            x.feed(n[0], n[1], n[2], n[3], n[4]);
        }
        return x.hall(text.length());
    }

    private static void hallAndFaultStates() {
        PanoramaHouse x = new PanoramaHouse();
        due(14, "hall(-1)", x.hall(-1), -2);
        due(15, "fault() of none", x.fault(), -1);
        due(14, "a fault", contract(x, "weeks x;"), -1);
        due(15, "fault()", x.fault(), 6);
        due(14, "the tape is empty after a fault", x.count(3), 0);
        due(14, "no hall of a fault", x.count(2), 0);
        due(14, "hall(1)", x.hall(1), -2);
        due(15, "-2 leaves the fault", x.fault(), 6);
        due(14, "a hall", contract(x, "weeks 2;"), 0);
        due(15, "a number takes it away", x.fault(), -1);
        due(14, "the tape is empty after a hall", x.count(3), 0);
        x.feed(0x20202020, 0, 0, 0, 0);
        due(14, "hall(21)", x.hall(21), -2);
        due(14, "-2 leaves the tape", x.count(3), 20);
        due(14, "only the first bytes count", x.hall(4), 1);
        due(14, "a fault's statements are forgotten", contract(x, "weeks 9; rent 8; part 7; rent"), -1);
        due(14, "the next hall", contract(x, ""), 2);
        due(14, "its weeks", x.hallOf(2, 0), 1);
        due(14, "its rent", x.hallOf(2, 5), 0);
        due(14, "its part", x.week(2, 1, 100), 50);
        for (int i = 3; i < 12; i++) {
            due(14, "hall " + i, contract(x, "rent 5;"), i);
        }
        x.feed(0, 0, 0, 0, 0);
        due(14, "a thirteenth hall", x.hall(20), -3);
        due(14, "-3 leaves the tape", x.count(3), 20);
        due(15, "-3 leaves the fault", x.fault(), -1);
        due(14, "a wrong length goes first", x.hall(21), -2);
        due(14, "count(2)", x.count(2), 12);
    }

    private static void faultAt(String text, int place) {
        PanoramaHouse x = new PanoramaHouse();
        due(14, "hall of [" + text + "]", contract(x, text), -1);
        due(15, "fault of [" + text + "]", x.fault(), place);
    }

    private static void faultPlaces() {
        faultAt("x", 0);
        faultAt("  ;", 2);
        faultAt("week 3;", 0);
        faultAt("weekss 3;", 0);
        faultAt("weeksa 3;", 0);
        faultAt("weeksz 3;", 0);
        faultAt("weeks{3;", 5);
        faultAt("weeks`3;", 5);
        faultAt("weeks/3;", 5);
        faultAt("weeks:3;", 5);
        faultAt("wee", 0);
        faultAt("Weeks 3;", 0);
        faultAt("weeks\t3;", 5);
        faultAt("weeks \u00ff3;", 6);
        faultAt("weeks", 5);
        faultAt("weeks  \n", 8);
        faultAt("weeks 3", 7);
        faultAt("weeks 3 4;", 8);
        faultAt("weeks 3;;", 8);
        faultAt("rent 100000;", 5);
        faultAt("rent 000001;", 5);
        faultAt("rent -1;", 5);
        faultAt("rent 1 if week = 1;", 7);
        faultAt("part 101;", 5);
        faultAt("part 00101;", 5);
        faultAt("part 99999", 5);
        faultAt("part 5 and week = 1;", 7);
        faultAt("part 5 if;", 9);
        faultAt("part 5 if weeks > 1;", 10);
        faultAt("part 5 if week 1;", 15);
        faultAt("part 5 if week ; 1;", 15);
        faultAt("part 5 if week >= 1;", 16);
        faultAt("part 5 if week > x;", 17);
        faultAt("part 5 if week > 123456;", 17);
        faultAt("part 5 if week > 1 if", 19);
        faultAt("part 5 if week > 1 and;", 22);
        faultAt("part 5 if week > 1 and", 22);
        faultAt("part 5 if week>1 and week>1 and week>1 and ", 43);
        faultAt("part 5 if week>1 and week>1 and week>1 and ;", 43);
        faultAt("part 5 if week>1 and week>1 and week>1 and week>1;", 43);
        faultAt("part 5 if week>1 and week>1 and week>1", 38);
        String twelve = "rent 1;rent 1;rent 1;rent 1;rent 1;rent 1;rent 1;rent 1;rent 1;rent 1;rent 1;rent 1;";
        faultAt(twelve + " weeks 1;", 85);
        faultAt(twelve + "part 101;", 84);
        faultAt(twelve + "  ?", 86);
    }

    private static void holdsAs(String text, int weeks, int rent, int ofThousand) {
        PanoramaHouse x = new PanoramaHouse();
        due(14, "hall of [" + text + "]", contract(x, text), 0);
        due(15, "fault of [" + text + "]", x.fault(), -1);
        due(17, "weeks of [" + text + "]", x.hallOf(0, 0), weeks);
        due(17, "rent of [" + text + "]", x.hallOf(0, 5), rent);
        due(16, "week of [" + text + "]", x.week(0, 10, 1000), ofThousand);
    }

    private static void contractsThatHold() {
        holdsAs("", 1, 0, 500);
        holdsAs(" \n ", 1, 0, 500);
        holdsAs("weeks3;rent4;part5if week=1and people=10and coins=1000;", 3, 4, 49);
        holdsAs("part 0;", 1, 0, 0);
        holdsAs("part 100;", 1, 0, 1000);
        holdsAs("part 00100;", 1, 0, 1000);
        holdsAs("weeks 99999; rent 99999;", 99999, 99999, 0);
        holdsAs("weeks 2; weeks 5; rent 9; rent 7;", 5, 7, 496);
        holdsAs("weeks 0;", 0, 0, -1);
        holdsAs("weeks\n1\n;\n", 1, 0, 500);
        holdsAs("part 1;part 2;part 3;part 4;part 5;part 6;part 7;part 8;part 9;part 10;part 11;part 12;", 1, 0, 10);
        holdsAs("part 1 if week>1;part 2 if week>1;part 3 if week>1;part 4 if week>1;part 5 if week>1;"
            + "part 6 if week>1;part 7 if week>1;part 8 if week>1;part 9 if week>1;part 10 if week>1;"
            + "part 11 if week>1;part 12 if week=1 and people<11 and coins>999; ", 1, 0, 120);
    }

    private static void week() {
        PanoramaHouse x = new PanoramaHouse();
        due(16, "no hall", x.week(0, 1, 1), -1);
        contract(x, "weeks 3; rent 10; part 33;");
        due(16, "people -1", x.week(0, -1, 1), -1);
        due(16, "people 100000", x.week(0, 100_000, 1), -1);
        due(16, "coins -1", x.week(0, 1, -1), -1);
        due(16, "coins 100000", x.week(0, 1, 100_000), -1);
        due(16, "hall -1", x.week(-1, 1, 1), -1);
        due(16, "hall 1", x.week(1, 1, 1), -1);
        due(16, "hall 12", x.week(12, 1, 1), -1);
        due(16, "refusals did nothing", x.hallOf(0, 1), 0);
        due(16, "fewer coins than the rent", x.week(0, 0, 9), 0);
        due(16, "the part is cut", x.week(0, 99_999, 15), 1);
        due(16, "the most coins", x.week(0, 5, 99_999), 32_996);
        due(16, "the weeks are over", x.week(0, 5, 5), -1);
        due(17, "weeks gone", x.hallOf(0, 1), 3);
        due(17, "coins of the house", x.hallOf(0, 2), 32_997);
        due(17, "coins of the hall", x.hallOf(0, 3), 9 + 14 + 67_003);
        due(17, "people", x.hallOf(0, 4), 100_004);
    }

    private static void weekTests() {
        PanoramaHouse x = new PanoramaHouse();
        contract(x, "weeks 9; part 10 if week < 2; part 20 if people = 7 and coins > 100; part 30 if coins < 100; rent 50;");
        due(16, "week 1", x.week(0, 7, 1050), 100);
        due(16, "week 2: people and coins", x.week(0, 7, 1050), 200);
        due(16, "coins are told ones, not the rest", x.week(0, 7, 101), 10);
        due(16, "no part holds: 50", x.week(0, 7, 100), 25);
        due(16, "coins below 100", x.week(0, 7, 99), 14);
        due(16, "people 8: no part holds", x.week(0, 8, 1050), 500);
    }

    private static void hallOf() {
        PanoramaHouse x = new PanoramaHouse();
        contract(x, "weeks 4; rent 3;");
        contract(x, "rent 2;");
        x.week(1, 6, 12);
        int[] first = {4, 0, 0, 0, 0, 3};
        int[] second = {1, 1, 5, 7, 6, 2};
        for (int what = 0; what < 6; what++) {
            due(17, "hallOf(0, " + what + ")", x.hallOf(0, what), first[what]);
            due(17, "hallOf(1, " + what + ")", x.hallOf(1, what), second[what]);
        }
        due(17, "hallOf(0, 6)", x.hallOf(0, 6), -1);
        due(17, "hallOf(0, -1)", x.hallOf(0, -1), -1);
        due(17, "hallOf(2, 0)", x.hallOf(2, 0), -1);
        due(17, "hallOf(-1, 0)", x.hallOf(-1, 0), -1);
        due(17, "hallOf(12, 0)", x.hallOf(12, 0), -1);
    }

    private static void room() {
        PanoramaHouse x = new PanoramaHouse();
        due(18, "room(0)", x.room(0), false);
        due(18, "room(201)", x.room(201), false);
        due(18, "room(-1)", x.room(-1), false);
        due(18, "M stays", x.crowd(5), 40);
        due(18, "room(200)", x.room(200), true);
        due(18, "M", x.crowd(5), 200);
        x.minute(30);
        x.minute(0);
        due(18, "room(1)", x.room(1), true);
        due(18, "who is there stays", x.crowd(0), 16);
        due(18, "no room", x.minute(0), 0);
        for (int i = 4; i <= 12; i++) {
            x.minute(0);
        }
        due(18, "8 leave, 8 are there still: no room", x.minute(0), 0);
        due(18, "8 more leave: room for one", x.minute(0), 1);
        due(18, "there", x.crowd(0), 1);
        due(18, "the most there ever was", x.crowd(4), 16);
    }

    private static void minute() {
        PanoramaHouse x = new PanoramaHouse();
        for (int i = 1; i <= 5; i++) {
            due(19, "minute " + i, x.minute(i == 1 ? 50 : 0), 8);
        }
        due(19, "the platform is full", x.minute(0), 0);
        due(19, "waiting", x.crowd(1), 10);
        for (int i = 7; i <= 12; i++) {
            due(19, "minute " + i, x.minute(0), 0);
        }
        due(19, "minute 13: those of minute 1 have left", x.minute(0), 8);
        due(19, "left", x.crowd(2), 8);
        due(19, "minute 14", x.minute(0), 2);
        due(19, "left", x.crowd(2), 16);
        due(19, "there", x.crowd(0), 34);
        due(19, "nobody waits", x.minute(0), 0);
        due(19, "they come and go up at once", x.minute(3), 3);
        due(19, "minutes", x.crowd(3), 16);
    }

    private static void minuteLimits() {
        PanoramaHouse x = new PanoramaHouse();
        x.room(1);
        due(19, "minute(-1)", x.minute(-1), -1);
        due(19, "minute(501)", x.minute(501), -1);
        due(19, "minute(500)", x.minute(500), 1);
        due(19, "minute(500)", x.minute(500), 0);
        due(19, "minute(500)", x.minute(500), 0);
        due(19, "1499 wait: 501 more is another n", x.minute(501), -1);
        due(19, "1999 wait", x.minute(500), 0);
        due(19, "2001 would wait", x.minute(2), -1);
        due(19, "doing nothing", x.crowd(3), 4);
        due(19, "doing nothing", x.crowd(1), 1999);
        due(19, "2000 wait", x.minute(1), 0);
        due(19, "nobody comes", x.minute(0), 0);
        due(19, "minutes", x.crowd(3), 6);
    }

    private static void crowd() {
        PanoramaHouse x = new PanoramaHouse();
        x.minute(9);
        x.minute(0);
        int[] after = {9, 0, 0, 2, 9, 40};
        for (int what = 0; what < after.length; what++) {
            due(20, "crowd(" + what + ")", x.crowd(what), after[what]);
        }
        for (int i = 0; i < 12; i++) {
            x.minute(0);
        }
        int[] later = {0, 0, 9, 14, 9, 40};
        for (int what = 0; what < later.length; what++) {
            due(20, "crowd(" + what + ")", x.crowd(what), later[what]);
        }
        due(20, "crowd(6)", x.crowd(6), -1);
        due(20, "crowd(-1)", x.crowd(-1), -1);
    }

    private static void count() {
        PanoramaHouse x = new PanoramaHouse();
        x.day();
        x.gang(9);
        x.gang(9);
        x.hall(0);
        x.hall(0);
        x.hall(0);
        x.feed(0, 0, 0, 0, 0);
        x.mark(0, 20, 0, 1);
        x.mark(0, 21, 0, 1);
        x.mark(0, 21, 0, 2);
        x.put(0, 36);
        x.day();
        int[] want = {2, 2, 3, 20, 2, 0};
        for (int what = 0; what < want.length; what++) {
            due(21, "count(" + what + ")", x.count(what), want[what]);
        }
        x.day();
        x.day();
        x.put(0, 36);
        due(21, "the second coat is only begun", x.count(5), 0);
        x.day();
        due(21, "both coats", x.count(5), 1);
        due(21, "count(6)", x.count(6), -1);
        due(21, "count(-1)", x.count(-1), -1);
    }
}
