/** Promises 1 to 7: the marks of the views and the round picture, each sentence by a test of its own. */
public final class PictureTest {
    private PictureTest() {
    }

    public static void main(String[] args) {
        Check.test(1, "VIEWS without MARKS", PictureTest::newViewsAreBare);
        Check.test(1, "a new object", PictureTest::objectsStandApart);

        Check.test(2, "A MARK's COLOUR: true", PictureTest::markIsSet);
        Check.test(2, "VIEWS 0 to 11", PictureTest::markOfFirstAndLastView);
        Check.test(2, "u 0 to 39", PictureTest::markOfFirstAndLastU);
        Check.test(2, "h 0 to 19", PictureTest::markOfFirstAndLastH);
        Check.test(2, "a COLOUR 0 to 7", PictureTest::markOfEachColour);
        Check.test(2, "0: none", PictureTest::markOfNoColour);
        Check.test(2, "False, doing nothing: not as told: the VIEW", PictureTest::markRefusesViews);
        Check.test(2, "False, doing nothing: not as told: u", PictureTest::markRefusesU);
        Check.test(2, "False, doing nothing: not as told: h", PictureTest::markRefusesH);
        Check.test(2, "False, doing nothing: not as told: the COLOUR", PictureTest::markRefusesColours);

        Check.test(3, "n 0: one", PictureTest::lineOfOnePoint);
        Check.test(3, "the points i 0 to n", PictureTest::lineHasBothEnds);
        Check.test(3, "of the greater way n of |v - u| and |g - h|", PictureTest::lineByItsGreaterWay);
        Check.test(3, "each cut downwards", PictureTest::lineIsCutDownwards);
        Check.test(3, "the longest line", PictureTest::longestLine);
        Check.test(3, "of a COLOUR (0 to 7)", PictureTest::lineOfEachColour);
        Check.test(3, "of one VIEW: 0 to 11", PictureTest::lineOfFirstAndLastView);
        Check.test(3, "NONE, doing nothing: not as told: the VIEW", PictureTest::lineRefusesViews);
        Check.test(3, "NONE, doing nothing: not as told: where it begins", PictureTest::lineRefusesBeginnings);
        Check.test(3, "NONE, doing nothing: not as told: where it ends", PictureTest::lineRefusesEnds);
        Check.test(3, "NONE, doing nothing: not as told: the COLOUR", PictureTest::lineRefusesColours);

        Check.test(4, "COLUMN 30 times its VIEW and k less ..", PictureTest::columnsOfAllMarks);
        Check.test(4, "k times k times k by 6,000, cut towards 0", PictureTest::cubeIsCutTowardsZero);
        Check.test(4, "modulo 360", PictureTest::columnsGoRound);
        Check.test(4, "ROW h times 1,000 by (1,000 and k times k), cut", PictureTest::rowsAreCut);
        Check.test(4, "NONE: no such MARK", PictureTest::standsOfNoSuchMark);
        Check.test(4, "COLUMN (what 0), ROW (1)", PictureTest::standsOfNothingElse);

        Check.test(5, "COLUMNS 0 to 359 and ROWS 0 to 19", PictureTest::placesAtTheEdges);
        Check.test(5, "the one with the greatest u counts", PictureTest::greatestUCounts);
        Check.test(5, "of these with the greatest h", PictureTest::greatestHCounts);
        Check.test(5, "that isn't 0", PictureTest::noColourDoesNotCount);
        Check.test(5, "that of the VIEW whose middle is nearer to its COLUMN", PictureTest::nearerViewCounts);
        Check.test(5, "the shorter way round", PictureTest::nearerTheShorterWayRound);
        Check.test(5, "of two as near the lesser VIEW", PictureTest::lesserViewOfTwoAsNear);
        Check.test(5, "of those that have one there", PictureTest::fartherViewAlone);
        Check.test(5, "0 if none has", PictureTest::noViewHasOne);
        Check.test(5, "NONE: no such place", PictureTest::colourOfNoSuchPlace);

        Check.test(6, "From which VIEW it is", PictureTest::fromEachView);
        Check.test(6, "NONE: 0", PictureTest::fromOfNoColour);
        Check.test(6, "NONE: no such place", PictureTest::fromOfNoSuchPlace);

        Check.test(7, "places at which both have a COLOUR, and not the same", PictureTest::seamCountsQuarrels);
        Check.test(7, "the MARK that counts is the one compared", PictureTest::seamOfMarksThatCount);
        Check.test(7, "0 behind 11", PictureTest::seamOfTheLastView);
        Check.test(7, "the first and the last COLUMN that two VIEWS share", PictureTest::seamAtItsEdges);
        Check.test(7, "a whole SEAM", PictureTest::wholeSeam);
        Check.test(7, "NONE: no such VIEW", PictureTest::seamOfNoSuchView);
        Check.end();
    }

    private static void newViewsAreBare() {
        for (int column = 0; column < 360; column++) {
            PanoramaHouse x = new PanoramaHouse();
            for (int row = 0; row < 20; row++) {
                Check.due("colour(" + column + ", " + row + ")", x.colour(column, row), 0);
                Check.due("from(" + column + ", " + row + ")", x.from(column, row), -1);
            }
        }
        PanoramaHouse x = new PanoramaHouse();
        for (int view = 0; view < 12; view++) {
            Check.due("seam(" + view + ")", x.seam(view), 0);
        }
        Check.due("count(4)", x.count(4), 0);
    }

    private static void objectsStandApart() {
        PanoramaHouse x = new PanoramaHouse();
        PanoramaHouse other = new PanoramaHouse();
        Scenes.livedIn(other);
        Check.due("colour(0, 9) beside another house", x.colour(0, 9), 0);
        Check.same("a house made beside another", y -> Scenes.livedIn(new PanoramaHouse()), Scenes::empty);
    }

    private static void markIsSet() {
        PanoramaHouse x = new PanoramaHouse();
        Check.due("mark(3, 20, 7, 4)", x.mark(3, 20, 7, 4), true);
        Check.due("colour(90, 7)", x.colour(90, 7), 4);
        Check.due("mark(3, 20, 7, 2) over it", x.mark(3, 20, 7, 2), true);
        Check.due("colour(90, 7)", x.colour(90, 7), 2);
        Check.due("mark(3, 20, 7, 2) once more", x.mark(3, 20, 7, 2), true);
        Check.due("count(4)", x.count(4), 1);
    }

    /** The mark is taken and is the only one that shows. */
    private static void shows(int view, int u, int h, int column, int row) {
        PanoramaHouse x = new PanoramaHouse();
        Check.due("mark(" + view + ", " + u + ", " + h + ", 5)", x.mark(view, u, h, 5), true);
        Check.due("colour(" + column + ", " + row + ")", x.colour(column, row), 5);
        Check.due("from(" + column + ", " + row + ")", x.from(column, row), view);
        Check.due("count(4)", x.count(4), 1);
    }

    private static void markOfFirstAndLastView() {
        for (int view = 0; view < 12; view++) {
            shows(view, 20, 5, 30 * view, 5);
        }
    }

    private static void markOfFirstAndLastU() {
        shows(4, 0, 0, 101, 0);
        shows(4, 39, 0, 138, 0);
    }

    private static void markOfFirstAndLastH() {
        shows(4, 20, 0, 120, 0);
        shows(4, 20, 19, 120, 19);
    }

    private static void markOfEachColour() {
        for (int colour = 0; colour <= 7; colour++) {
            PanoramaHouse x = new PanoramaHouse();
            Check.due("mark(0, 20, 5, " + colour + ")", x.mark(0, 20, 5, colour), true);
            Check.due("colour(0, 5)", x.colour(0, 5), colour);
        }
    }

    private static void markOfNoColour() {
        PanoramaHouse x = new PanoramaHouse();
        x.mark(0, 20, 5, 3);
        Check.due("mark(0, 20, 5, 0)", x.mark(0, 20, 5, 0), true);
        Check.due("colour(0, 5)", x.colour(0, 5), 0);
        Check.due("from(0, 5)", x.from(0, 5), -1);
        Check.due("count(4)", x.count(4), 0);
        Check.due("mark(0, 20, 5, 0) where none is", x.mark(0, 20, 5, 0), true);
        Check.due("count(4)", x.count(4), 0);
    }

    private static void refusesMark(int view, int u, int h, int colour) {
        String name = "mark(" + view + ", " + u + ", " + h + ", " + colour + ")";
        Check.refuses(Scenes::livedIn, name, 0, x -> x.mark(view, u, h, colour) ? 1 : 0);
    }

    private static void markRefusesViews() {
        refusesMark(-1, 20, 5, 3);
        refusesMark(12, 20, 5, 3);
        for (int far : Scenes.FAR_OUT) {
            refusesMark(far, 20, 5, 3);
        }
    }

    private static void markRefusesU() {
        refusesMark(4, -1, 5, 3);
        refusesMark(4, 40, 5, 3);
        refusesMark(0, -1, 0, 3);
        refusesMark(11, 40, 19, 3);
        for (int far : Scenes.FAR_OUT) {
            refusesMark(4, far, 5, 3);
        }
    }

    private static void markRefusesH() {
        refusesMark(4, 20, -1, 3);
        refusesMark(4, 20, 20, 3);
        refusesMark(0, 0, -1, 3);
        refusesMark(11, 39, 20, 3);
        for (int far : Scenes.FAR_OUT) {
            refusesMark(4, 20, far, 3);
        }
    }

    private static void markRefusesColours() {
        refusesMark(4, 20, 5, -1);
        refusesMark(4, 20, 5, 8);
        for (int far : Scenes.FAR_OUT) {
            refusesMark(4, 20, 5, far);
        }
    }

    /** The line has the points (u and h by turns) and no other: each shows when all the others are taken away. */
    private static void draws(int u, int h, int v, int g, int... points) {
        String name = "line(4, " + u + ", " + h + ", " + v + ", " + g + ", 5)";
        for (int kept = -2; kept < points.length; kept += 2) {
            PanoramaHouse x = new PanoramaHouse();
            Check.due(name, x.line(4, u, h, v, g, 5), points.length / 2);
            for (int i = 0; i < points.length; i += 2) {
                if (i != kept) {
                    x.mark(4, points[i], points[i + 1], 0);
                }
            }
            Check.due(name + ": places but for those of all points", x.count(4), kept < 0 ? 0 : 1);
            if (kept >= 0) {
                int column = x.stands(4, points[kept], points[kept + 1], 0);
                int row = x.stands(4, points[kept], points[kept + 1], 1);
                Check.due(name + " at " + points[kept] + ", " + points[kept + 1], x.colour(column, row), 5);
            }
        }
    }

    private static void lineOfOnePoint() {
        draws(20, 3, 20, 3, 20, 3);
        draws(0, 0, 0, 0, 0, 0);
        draws(39, 19, 39, 19, 39, 19);
    }

    private static void lineHasBothEnds() {
        draws(10, 5, 14, 5, 10, 5, 11, 5, 12, 5, 13, 5, 14, 5);
        draws(20, 2, 20, 0, 20, 2, 20, 1, 20, 0);
        draws(20, 0, 21, 1, 20, 0, 21, 1);
    }

    private static void lineByItsGreaterWay() {
        draws(0, 0, 3, 3, 0, 0, 1, 1, 2, 2, 3, 3);
        draws(3, 0, 0, 3, 3, 0, 2, 1, 1, 2, 0, 3);
        draws(0, 0, 5, 2, 0, 0, 1, 0, 2, 0, 3, 1, 4, 1, 5, 2);
        draws(0, 0, 2, 5, 0, 0, 0, 1, 0, 2, 1, 3, 1, 4, 2, 5);
    }

    private static void lineIsCutDownwards() {
        // h goes 2, 1 2/3, 1 1/3, 1: cut towards 0 on its way it would stay 2 until the end.
        draws(22, 2, 19, 1, 22, 2, 21, 1, 20, 1, 19, 1);
        // u goes 21, 20 4/5 .. 20 1/5, 20.
        draws(21, 0, 20, 5, 21, 0, 20, 1, 20, 2, 20, 3, 20, 4, 20, 5);
        draws(5, 5, 0, 3, 5, 5, 4, 4, 3, 4, 2, 3, 1, 3, 0, 3);
    }

    private static void longestLine() {
        int[] down = new int[80];
        int[] flat = new int[80];
        for (int i = 0; i < 40; i++) {
            down[2 * i] = 39 - i;
            down[2 * i + 1] = (19 * 39 - 19 * i) / 39;
            flat[2 * i] = i;
            flat[2 * i + 1] = 19;
        }
        draws(39, 19, 0, 0, down);
        draws(0, 19, 39, 19, flat);
        PanoramaHouse x = new PanoramaHouse();
        Check.due("line(4, 0, 0, 0, 19, 1)", x.line(4, 0, 0, 0, 19, 1), 20);
    }

    private static void lineOfEachColour() {
        for (int colour = 0; colour <= 7; colour++) {
            PanoramaHouse x = new PanoramaHouse();
            x.line(2, 20, 3, 20, 5, 6);
            Check.due("line of " + colour, x.line(2, 20, 3, 20, 5, colour), 3);
            for (int row = 3; row <= 5; row++) {
                Check.due("colour(60, " + row + ")", x.colour(60, row), colour);
            }
            Check.due("count(4)", x.count(4), colour == 0 ? 0 : 3);
        }
    }

    private static void lineOfFirstAndLastView() {
        for (int view = 0; view < 12; view++) {
            PanoramaHouse x = new PanoramaHouse();
            Check.due("line of view " + view, x.line(view, 20, 3, 20, 5, 1), 3);
            Check.due("from(" + 30 * view + ", 4)", x.from(30 * view, 4), view);
        }
    }

    private static void refusesLine(int view, int u, int h, int v, int g, int colour) {
        String name = "line(" + view + ", " + u + ", " + h + ", " + v + ", " + g + ", " + colour + ")";
        Check.refuses(Scenes::livedIn, name, -1, x -> x.line(view, u, h, v, g, colour));
    }

    private static void lineRefusesViews() {
        refusesLine(-1, 5, 5, 9, 9, 3);
        refusesLine(12, 5, 5, 9, 9, 3);
        for (int far : Scenes.FAR_OUT) {
            refusesLine(far, 5, 5, 9, 9, 3);
        }
    }

    private static void lineRefusesBeginnings() {
        refusesLine(4, -1, 5, 9, 9, 3);
        refusesLine(4, 40, 5, 9, 9, 3);
        refusesLine(4, 5, -1, 9, 9, 3);
        refusesLine(4, 5, 20, 9, 9, 3);
        for (int far : Scenes.FAR_OUT) {
            refusesLine(4, far, 5, 9, 9, 3);
            refusesLine(4, 5, far, 9, 9, 3);
        }
    }

    private static void lineRefusesEnds() {
        refusesLine(4, 5, 5, -1, 9, 3);
        refusesLine(4, 5, 5, 40, 9, 3);
        refusesLine(4, 5, 5, 9, -1, 3);
        refusesLine(4, 5, 5, 9, 20, 3);
        for (int far : Scenes.FAR_OUT) {
            refusesLine(4, 5, 5, far, 9, 3);
            refusesLine(4, 5, 5, 9, far, 3);
        }
    }

    private static void lineRefusesColours() {
        refusesLine(4, 5, 5, 9, 9, -1);
        refusesLine(4, 5, 5, 9, 9, 8);
        refusesLine(4, 5, 5, 5, 5, 8);
        for (int far : Scenes.FAR_OUT) {
            refusesLine(4, 5, 5, 9, 9, far);
        }
    }

    private static void columnsOfAllMarks() {
        for (int view = 0; view < 12; view++) {
            PanoramaHouse x = new PanoramaHouse();
            for (int u = 0; u < 40; u++) {
                // Only the cubes of 19 and 20 reach 6,000.
                int offset = u < 2 ? u - 19 : u > 38 ? u - 21 : u - 20;
                int column = (360 + 30 * view + offset) % 360;
                Check.due("stands(" + view + ", " + u + ", 7, 0)", x.stands(view, u, 7, 0), column);
            }
        }
    }

    private static void cubeIsCutTowardsZero() {
        PanoramaHouse x = new PanoramaHouse();
        Check.due("u 0: -8,000 by 6,000 is -1", x.stands(1, 0, 0, 0), 11);
        Check.due("u 1: -6,859 by 6,000 is -1", x.stands(1, 1, 0, 0), 12);
        Check.due("u 2: -5,832 by 6,000 is 0", x.stands(1, 2, 0, 0), 12);
        Check.due("u 19: -1 by 6,000 is 0", x.stands(1, 19, 0, 0), 29);
        Check.due("u 38: 5,832 by 6,000 is 0", x.stands(1, 38, 0, 0), 48);
        Check.due("u 39: 6,859 by 6,000 is 1", x.stands(1, 39, 0, 0), 48);
    }

    private static void columnsGoRound() {
        PanoramaHouse x = new PanoramaHouse();
        Check.due("stands(0, 0, 0, 0)", x.stands(0, 0, 0, 0), 341);
        Check.due("stands(0, 19, 0, 0)", x.stands(0, 19, 0, 0), 359);
        Check.due("stands(0, 20, 0, 0)", x.stands(0, 20, 0, 0), 0);
        Check.due("stands(11, 39, 0, 0)", x.stands(11, 39, 0, 0), 348);
        x.mark(0, 19, 0, 1);
        Check.due("colour(359, 0)", x.colour(359, 0), 1);
    }

    private static void rowsAreCut() {
        PanoramaHouse x = new PanoramaHouse();
        // u, h and the row: quotients that come out even, and those just below.
        int[][] known = {
            {20, 0, 0}, {20, 1, 1}, {20, 19, 19}, {21, 1, 0}, {19, 1, 0}, {21, 19, 18}, {19, 19, 18},
            {0, 0, 0}, {0, 1, 0}, {0, 2, 1}, {0, 6, 4}, {0, 7, 5}, {0, 13, 9}, {0, 14, 10}, {0, 19, 13},
            {30, 10, 9}, {30, 11, 10}, {30, 19, 17}, {10, 11, 10}, {39, 19, 13}, {38, 19, 14}, {1, 19, 13}, {2, 19, 14},
        };
        for (int[] k : known) {
            Check.due("stands(7, " + k[0] + ", " + k[1] + ", 1)", x.stands(7, k[0], k[1], 1), k[2]);
        }
    }

    private static void noMark(int view, int u, int h) {
        PanoramaHouse x = new PanoramaHouse();
        for (int what = 0; what <= 1; what++) {
            Check.due("stands(" + view + ", " + u + ", " + h + ", " + what + ")", x.stands(view, u, h, what), -1);
        }
    }

    private static void standsOfNoSuchMark() {
        noMark(-1, 5, 5);
        noMark(12, 5, 5);
        noMark(4, -1, 5);
        noMark(4, 40, 5);
        noMark(4, 5, -1);
        noMark(4, 5, 20);
        for (int far : Scenes.FAR_OUT) {
            noMark(far, 5, 5);
            noMark(4, far, 5);
            noMark(4, 5, far);
        }
    }

    private static void standsOfNothingElse() {
        PanoramaHouse x = new PanoramaHouse();
        Check.due("stands(1, 24, 19, 0)", x.stands(1, 24, 19, 0), 34);
        Check.due("stands(1, 24, 19, 1)", x.stands(1, 24, 19, 1), 18);
        Check.due("stands(1, 24, 19, -1)", x.stands(1, 24, 19, -1), -1);
        Check.due("stands(1, 24, 19, 2)", x.stands(1, 24, 19, 2), -1);
        for (int far : Scenes.FAR_OUT) {
            Check.due("stands(1, 24, 19, " + far + ")", x.stands(1, 24, 19, far), -1);
        }
    }

    private static void placesAtTheEdges() {
        PanoramaHouse x = new PanoramaHouse();
        x.mark(0, 20, 0, 1);
        x.mark(0, 20, 19, 2);
        x.mark(0, 19, 0, 3);
        x.mark(0, 19, 19, 4);
        Check.due("colour(0, 0)", x.colour(0, 0), 1);
        Check.due("colour(0, 19)", x.colour(0, 19), 2);
        Check.due("colour(359, 0)", x.colour(359, 0), 3);
        Check.due("colour(359, 18)", x.colour(359, 18), 4);
        Check.due("colour(359, 19)", x.colour(359, 19), 0);
    }

    private static void greatestUCounts() {
        PanoramaHouse x = new PanoramaHouse();
        // u 38 and 39 stand in column 18, u 1 and 2 in column 342.
        x.mark(0, 39, 0, 2);
        x.mark(0, 38, 0, 1);
        Check.due("u 39 before u 38", x.colour(18, 0), 2);
        x.mark(0, 38, 1, 4);
        Check.due("the greater u before the greater h", x.colour(18, 0), 2);
        x.mark(0, 1, 1, 5);
        x.mark(0, 2, 0, 6);
        Check.due("u 2 before u 1", x.colour(342, 0), 6);
        Check.due("count(4)", x.count(4), 2);
    }

    private static void greatestHCounts() {
        PanoramaHouse x = new PanoramaHouse();
        // Of u 0, h 0 and 1 stand in row 0; of u 21, h 0 and 1 do.
        x.mark(0, 0, 1, 3);
        x.mark(0, 0, 0, 2);
        Check.due("h 1 before h 0 of u 0", x.colour(341, 0), 3);
        x.mark(0, 21, 1, 7);
        x.mark(0, 21, 0, 6);
        Check.due("h 1 before h 0 of u 21", x.colour(1, 0), 7);
        // Of u 0, h 7 stands in row 5 at its lower edge and h 8 too; h 9 stands in row 6.
        x.mark(0, 0, 7, 1);
        Check.due("colour(341, 5) of h 7", x.colour(341, 5), 1);
        x.mark(0, 0, 8, 2);
        x.mark(0, 0, 9, 3);
        Check.due("colour(341, 5) of h 8", x.colour(341, 5), 2);
        Check.due("colour(341, 6) of h 9", x.colour(341, 6), 3);
    }

    private static void noColourDoesNotCount() {
        PanoramaHouse x = new PanoramaHouse();
        x.mark(0, 38, 0, 1);
        x.mark(0, 38, 1, 2);
        x.mark(0, 39, 0, 3);
        x.mark(0, 39, 1, 4);
        Check.due("all four", x.colour(18, 0), 4);
        x.mark(0, 39, 1, 0);
        Check.due("without u 39, h 1", x.colour(18, 0), 3);
        x.mark(0, 39, 0, 0);
        Check.due("without u 39", x.colour(18, 0), 2);
        x.mark(0, 38, 1, 0);
        Check.due("u 38, h 0 alone", x.colour(18, 0), 1);
        Check.due("count(4)", x.count(4), 1);
        x.mark(0, 38, 0, 0);
        Check.due("none", x.colour(18, 0), 0);
        Check.due("count(4)", x.count(4), 0);
    }

    /** Both views have a colour at the column, the first 1, the other 2. */
    private static PanoramaHouse twoViews(int first, int u, int other, int otherU) {
        PanoramaHouse x = new PanoramaHouse();
        x.mark(first, u, 0, 1);
        x.mark(other, otherU, 0, 2);
        Check.due("both stand at one place", x.stands(first, u, 0, 0), x.stands(other, otherU, 0, 0));
        Check.due("which is one", x.count(4), 1);
        return x;
    }

    private static void nearerViewCounts() {
        for (int view = 0; view < 11; view++) {
            PanoramaHouse x = twoViews(view, 34, view + 1, 4);
            Check.due("14 behind view " + view, x.colour(30 * view + 14, 0), 1);
            PanoramaHouse y = twoViews(view, 36, view + 1, 6);
            Check.due("16 behind view " + view, y.colour(30 * view + 16, 0), 2);
        }
        Check.due("11 behind view 4", twoViews(4, 31, 5, 0).colour(131, 0), 1);
        Check.due("18 behind view 4", twoViews(4, 39, 5, 8).colour(138, 0), 2);
    }

    private static void nearerTheShorterWayRound() {
        PanoramaHouse x = twoViews(11, 34, 0, 4);
        Check.due("colour(344, 0)", x.colour(344, 0), 1);
        Check.due("from(344, 0)", x.from(344, 0), 11);
        PanoramaHouse y = twoViews(11, 36, 0, 6);
        Check.due("colour(346, 0)", y.colour(346, 0), 2);
        Check.due("from(346, 0)", y.from(346, 0), 0);
        Check.due("colour(341, 0)", twoViews(11, 31, 0, 0).colour(341, 0), 1);
        Check.due("colour(348, 0)", twoViews(11, 39, 0, 8).colour(348, 0), 2);
    }

    private static void lesserViewOfTwoAsNear() {
        for (int view = 0; view < 11; view++) {
            PanoramaHouse x = twoViews(view, 35, view + 1, 5);
            Check.due("colour(" + (30 * view + 15) + ", 0)", x.colour(30 * view + 15, 0), 1);
            Check.due("from(" + (30 * view + 15) + ", 0)", x.from(30 * view + 15, 0), view);
        }
        PanoramaHouse x = twoViews(11, 35, 0, 5);
        Check.due("colour(345, 0)", x.colour(345, 0), 2);
        Check.due("from(345, 0)", x.from(345, 0), 0);
    }

    private static void fartherViewAlone() {
        PanoramaHouse x = twoViews(4, 39, 5, 8);
        x.mark(5, 8, 0, 0);
        Check.due("colour(138, 0) of view 4 alone", x.colour(138, 0), 1);
        Check.due("from(138, 0)", x.from(138, 0), 4);
        PanoramaHouse y = twoViews(4, 31, 5, 0);
        y.mark(4, 31, 0, 0);
        Check.due("colour(131, 0) of view 5 alone", y.colour(131, 0), 2);
        Check.due("from(131, 0)", y.from(131, 0), 5);
        PanoramaHouse z = twoViews(11, 35, 0, 5);
        z.mark(0, 5, 0, 0);
        Check.due("colour(345, 0) of view 11 alone", z.colour(345, 0), 1);
        Check.due("from(345, 0)", z.from(345, 0), 11);
        Check.due("count(4)", z.count(4), 1);
    }

    private static void noViewHasOne() {
        PanoramaHouse x = twoViews(4, 35, 5, 5);
        x.mark(4, 35, 0, 0);
        x.mark(5, 5, 0, 0);
        Check.due("colour(135, 0)", x.colour(135, 0), 0);
        Check.due("count(4)", x.count(4), 0);
        x.mark(4, 20, 5, 1);
        Check.due("beside a mark", x.colour(121, 5), 0);
        Check.due("above a mark", x.colour(120, 6), 0);
        Check.due("below a mark", x.colour(120, 4), 0);
    }

    private static final int[][] NO_PLACES = {
        {-1, 5}, {360, 5}, {5, -1}, {5, 20}, {-1, -1}, {360, 20}, {0, 20}, {359, -1},
        {Integer.MIN_VALUE, 5}, {Integer.MAX_VALUE, 5}, {5, Integer.MIN_VALUE}, {5, Integer.MAX_VALUE},
    };

    private static void colourOfNoSuchPlace() {
        PanoramaHouse x = new PanoramaHouse();
        x.line(0, 19, 0, 19, 19, 4);
        x.line(0, 20, 0, 20, 19, 4);
        for (int[] p : NO_PLACES) {
            Check.due("colour(" + p[0] + ", " + p[1] + ")", x.colour(p[0], p[1]), -1);
        }
    }

    private static void fromEachView() {
        PanoramaHouse x = new PanoramaHouse();
        for (int view = 0; view < 12; view++) {
            x.line(view, 0, 0, 39, 0, 1 + view % 7);
        }
        for (int column = 0; column < 360; column++) {
            int behind = column % 30;
            int view = behind < 15 || behind == 15 && column != 345 ? column / 30 : (column / 30 + 1) % 12;
            Check.due("from(" + column + ", 0)", x.from(column, 0), view);
        }
    }

    private static void fromOfNoColour() {
        PanoramaHouse x = new PanoramaHouse();
        Check.due("from(0, 5) of a bare view", x.from(0, 5), -1);
        x.mark(0, 20, 5, 1);
        Check.due("from(0, 5)", x.from(0, 5), 0);
        x.mark(0, 20, 5, 0);
        Check.due("from(0, 5) of a mark taken away", x.from(0, 5), -1);
    }

    private static void fromOfNoSuchPlace() {
        PanoramaHouse x = new PanoramaHouse();
        x.line(0, 19, 0, 19, 19, 4);
        x.line(0, 20, 0, 20, 19, 4);
        for (int[] p : NO_PLACES) {
            Check.due("from(" + p[0] + ", " + p[1] + ")", x.from(p[0], p[1]), -1);
        }
    }

    private static void seamCountsQuarrels() {
        PanoramaHouse x = new PanoramaHouse();
        x.mark(4, 35, 0, 1);
        Check.due("the view alone", x.seam(4), 0);
        x.mark(5, 5, 0, 1);
        Check.due("the same colour", x.seam(4), 0);
        x.mark(5, 5, 0, 2);
        Check.due("another colour", x.seam(4), 1);
        Check.due("told of the view before, not of the next one", x.seam(5), 0);
        Check.due("nor of the one before that", x.seam(3), 0);
        x.mark(4, 35, 0, 0);
        Check.due("the next one alone", x.seam(4), 0);
        x.mark(4, 35, 2, 3);
        Check.due("another place of that column", x.seam(4), 0);
    }

    private static void seamOfMarksThatCount() {
        PanoramaHouse x = new PanoramaHouse();
        x.mark(4, 38, 0, 1);
        x.mark(4, 39, 0, 2);
        x.mark(5, 8, 0, 2);
        Check.due("u 39 has the same colour", x.seam(4), 0);
        x.mark(4, 39, 0, 0);
        Check.due("u 38 has another one", x.seam(4), 1);
        x.mark(5, 8, 1, 1);
        Check.due("h 1 of the next view is as u 38", x.seam(4), 0);
    }

    private static void seamOfTheLastView() {
        PanoramaHouse x = new PanoramaHouse();
        x.mark(11, 35, 0, 1);
        x.mark(0, 5, 0, 2);
        Check.due("seam(11)", x.seam(11), 1);
        Check.due("seam(0)", x.seam(0), 0);
        Check.due("seam(10)", x.seam(10), 0);
    }

    private static void seamAtItsEdges() {
        Check.due("column 131", twoViews(4, 31, 5, 0).seam(4), 1);
        Check.due("column 138", twoViews(4, 39, 5, 8).seam(4), 1);
        Check.due("column 341", twoViews(11, 31, 0, 0).seam(11), 1);
        Check.due("column 348", twoViews(11, 39, 0, 8).seam(11), 1);
        PanoramaHouse x = new PanoramaHouse();
        x.mark(4, 35, 19, 1);
        x.mark(5, 5, 19, 2);
        Check.due("the highest row, 15", x.seam(4), 1);
    }

    private static void wholeSeam() {
        for (int view = 10; view < 12; view++) {
            PanoramaHouse x = new PanoramaHouse();
            for (int u = 0; u < 40; u++) {
                x.line(view, u, 0, u, 19, 1);
                x.line((view + 1) % 12, u, 0, u, 19, 2);
            }
            // Columns 11 to 18 behind the view: 14, 15, 15, 16, 16, 16, 15 and 15 rows that both reach.
            Check.due("seam(" + view + ")", x.seam(view), 122);
        }
    }

    private static void seamOfNoSuchView() {
        PanoramaHouse x = new PanoramaHouse();
        Scenes.livedIn(x);
        Check.due("seam(-1)", x.seam(-1), -1);
        Check.due("seam(12)", x.seam(12), -1);
        for (int far : Scenes.FAR_OUT) {
            Check.due("seam(" + far + ")", x.seam(far), -1);
        }
    }
}
