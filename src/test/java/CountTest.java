/** Promises 1 and 21: what is counted of the whole house, from a new one to a full one. */
public final class CountTest {
    private CountTest() {
    }

    public static void main(String[] args) {
        Check.test(1, "all that a new house counts", CountTest::newHouse);
        Check.test(21, "0 TODAY", CountTest::today);
        Check.test(21, "1 GANGS, up to 6", CountTest::gangs);
        Check.test(21, "2 HALLS, up to 12", CountTest::halls);
        Check.test(21, "3 bytes on the tape, up to 600", CountTest::bytes);
        Check.test(21, "4 places with a COLOUR", CountTest::places);
        Check.test(21, "4 places with a COLOUR: in every SQUARE", CountTest::placesOfEverySquare);
        Check.test(21, "5 SQUARES with both COATS", CountTest::squares);
        Check.test(21, "5 SQUARES with both COATS: all 72", CountTest::allSquares);
        Check.test(21, "NONE for others", CountTest::nothingElse);
        Check.test(21, "questions change nothing", CountTest::questionsChangeNothing);
        Check.end();
    }

    private static void newHouse() {
        PanoramaHouse x = new PanoramaHouse();
        for (int what = 0; what <= 5; what++) {
            Check.due("count(" + what + ")", x.count(what), 0);
        }
        for (int hall = 0; hall < 12; hall++) {
            for (int what = 0; what <= 5; what++) {
                Check.due("hallOf(" + hall + ", " + what + ")", x.hallOf(hall, what), -1);
            }
        }
        Check.due("fault()", x.fault(), -1);
        Check.due("put(0, 36)", x.put(0, 36), -2);
        Check.due("least(0, 1, 1)", x.least(0, 1, 1), -1);
        Check.due("hall(1)", x.hall(1), -2);
    }

    private static void today() {
        PanoramaHouse x = new PanoramaHouse();
        for (int day = 1; day <= 100; day++) {
            x.day();
            Check.due("count(0)", x.count(0), day);
        }
    }

    private static void gangs() {
        PanoramaHouse x = new PanoramaHouse();
        for (int i = 1; i <= 8; i++) {
            x.gang(i);
            Check.due("count(1)", x.count(1), Math.min(i, 6));
        }
        PanoramaHouse y = new PanoramaHouse();
        y.gang(21);
        Check.due("count(1) behind gang(21)", y.count(1), 0);
    }

    private static void halls() {
        PanoramaHouse x = new PanoramaHouse();
        for (int i = 1; i <= 14; i++) {
            x.hall(0);
            Check.due("count(2)", x.count(2), Math.min(i, 12));
        }
        PanoramaHouse y = new PanoramaHouse();
        Scenes.contract(y, "rent");
        Check.due("count(2) behind a fault", y.count(2), 0);
    }

    private static void bytes() {
        PanoramaHouse x = new PanoramaHouse();
        for (int i = 1; i <= 32; i++) {
            x.feed(0, 0, 0, 0, 0);
            Check.due("count(3)", x.count(3), Math.min(20 * i, 600));
        }
        x.hall(5);
        Check.due("count(3) behind a hall()", x.count(3), 0);
    }

    private static void places() {
        PanoramaHouse x = new PanoramaHouse();
        for (int u = 0; u < 40; u++) {
            x.line(6, u, 0, u, 19, 1);
        }
        // 20 rows in the middle; of k 1 to 17 on either side 301; 15, 15 and 14 in the columns beyond.
        Check.due("a whole view", x.count(4), 20 + 2 * 301 + 15 + 15 + 14);
        for (int u = 0; u < 40; u++) {
            x.line(7, u, 0, u, 19, 2);
        }
        Check.due("two views, 122 places of both", x.count(4), 2 * 666 - 122);
        for (int u = 0; u < 40; u++) {
            x.line(6, u, 0, u, 19, 0);
        }
        Check.due("the second alone", x.count(4), 666);
        for (int u = 0; u < 40; u++) {
            x.line(7, u, 0, u, 19, 0);
        }
        Check.due("none", x.count(4), 0);
    }

    private static void placesOfEverySquare() {
        PanoramaHouse x = new PanoramaHouse();
        int places = 0;
        // u 10, 20 and 30 stand 10 columns apart; h 5 and 15 on the ground and in the sky.
        for (int view = 0; view < 12; view++) {
            for (int u = 10; u <= 30; u += 10) {
                for (int h = 5; h <= 15; h += 10) {
                    x.mark(view, u, h, 1);
                    places++;
                    Check.due("count(4) with mark " + view + ", " + u + ", " + h, x.count(4), places);
                }
            }
        }
        for (int square = 0; square < 72; square++) {
            Check.due("square(" + square + ", 0)", x.square(square, 0), 4);
        }
    }

    private static void squares() {
        PanoramaHouse x = new PanoramaHouse();
        x.gang(2);
        x.put(0, 36);
        Scenes.days(x, 2);
        Check.due("one coat", x.count(5), 0);
        Scenes.days(x, 2);
        x.put(0, 36);
        Check.due("the second begun", x.count(5), 0);
        x.day();
        Check.due("both", x.count(5), 1);
        x.put(0, 0);
        Scenes.days(x, 5);
        Check.due("the sky's first", x.count(5), 1);
        x.put(0, 0);
        x.day();
        Check.due("the sky's both", x.count(5), 2);
    }

    /** Six gangs do one coat of all grounds or skies in six days. */
    private static void coat(PanoramaHouse x, int firstSquare, int coat) {
        for (int square = firstSquare; square < firstSquare + 36; square++) {
            Check.due("put on " + square, x.put(square % 6, square), coat);
            if (square % 6 == 5) {
                x.day();
            }
        }
    }

    private static void allSquares() {
        PanoramaHouse x = new PanoramaHouse();
        for (int gang = 0; gang < 6; gang++) {
            x.gang(3);
        }
        coat(x, 36, 1);
        coat(x, 0, 1);
        coat(x, 36, 2);
        Check.due("all grounds", x.count(5), 36);
        coat(x, 0, 2);
        Check.due("all", x.count(5), 72);
        Check.due("TODAY", x.count(0), 24);
        Check.due("put(0, 0)", x.put(0, 0), -4);
        Check.due("put(5, 71)", x.put(5, 71), -4);
    }

    private static void nothingElse() {
        PanoramaHouse x = new PanoramaHouse();
        Scenes.livedIn(x);
        for (int what : new int[] {-1, 6, Integer.MIN_VALUE, Integer.MAX_VALUE}) {
            Check.due("count(" + what + ")", x.count(what), -1);
        }
    }

    private static void ask(PanoramaHouse x) {
        for (int what = -1; what <= 7; what++) {
            x.stands(0, 20, 10, what);
            x.square(36, what);
            x.hallOf(0, what);
            x.crowd(what);
            x.count(what);
        }
        x.colour(0, 9);
        x.from(0, 9);
        x.seam(0);
        x.least(36, 6, 3);
        x.fault();
    }

    private static void questionsChangeNothing() {
        Check.Scene lived = Scenes::livedIn;
        Check.same("a house that was asked", lived.then(CountTest::ask), lived);
        Check.same("later", lived.then(CountTest::ask).then(Scenes::goOn), lived.then(Scenes::goOn));
    }
}
