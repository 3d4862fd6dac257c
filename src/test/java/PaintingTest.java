/** Promises 8 to 12: gangs, coats, days and least days, each sentence by a test of its own. */
public final class PaintingTest {
    private PaintingTest() {
    }

    public static void main(String[] args) {
        Check.test(1, "SQUARES without COATS", PaintingTest::newSquaresAreBare);

        Check.test(8, "A GANG: its number", PaintingTest::gangsAreNumbered);
        Check.test(8, "SKILL 1 to 20", PaintingTest::leastAndGreatestSkill);
        Check.test(8, "NONE, doing nothing: no such SKILL", PaintingTest::gangRefusesSkills);
        Check.test(8, "NONE, doing nothing: 6 are there", PaintingTest::gangRefusesASeventh);

        Check.test(9, "of the first if none is begun: the COAT (1)", PaintingTest::firstCoat);
        Check.test(9, "SQUARES 0 to 71, GANGS up to 6", PaintingTest::lastGangAndSquare);
        Check.test(9, "-2 none such: the GANG", PaintingTest::putRefusesNoSuchGang);
        Check.test(9, "-2 none such: the SQUARE", PaintingTest::putRefusesNoSuchSquare);
        Check.test(9, "-3 it isn't free", PaintingTest::putRefusesABusyGang);
        Check.test(9, "-4 both COATS are done", PaintingTest::putRefusesAFinishedSquare);
        Check.test(9, "-5 a GANG is on it", PaintingTest::putRefusesATakenSquare);
        Check.test(9, "-6 the first COAT isn't DRY", PaintingTest::putRefusesAWetSquare);
        Check.test(9, "3 DAYS behind the DAY on which it was done, or more", PaintingTest::dryAfterThreeDays);
        Check.test(9, "-7 the ground isn't done so far: the first COAT", PaintingTest::putRefusesSkyFirst);
        Check.test(9, "-7 the ground isn't done so far: the second COAT", PaintingTest::putRefusesSkySecond);
        Check.test(9, "of the sky only if the ground's same COAT is done", PaintingTest::skyOverItsGround);
        Check.test(9, "Nothing is done at the first of: -2 before the others", PaintingTest::noneSuchGoesFirst);
        Check.test(9, "Nothing is done at the first of: -3 before -4, -5, -6, -7", PaintingTest::notFreeGoesSecond);
        Check.test(9, "Nothing is done at the first of: -6 before -7", PaintingTest::wetGoesBeforeGround);
        Check.test(9, "the WORK is half (cut, 1 at least)", PaintingTest::secondCoatIsHalf);

        Check.test(10, "A DAY goes by: TODAY", PaintingTest::daysAreCounted);
        Check.test(10, "each GANG does its SKILL", PaintingTest::eachGangDoesItsSkill);
        Check.test(10, "a COAT that has no more WORK is done on that DAY", PaintingTest::coatEndsAtNoWork);
        Check.test(10, "and its GANG is free", PaintingTest::gangIsFreeBehindItsCoat);
        Check.test(10, "a GANG that is free does nothing", PaintingTest::freeGangsRest);
        Check.test(10, "NONE, doing nothing: it's 1,000", PaintingTest::noDayBehindTheLast);

        Check.test(11, "0 WORK of a first COAT now: 3 and the places that have a COLOUR", PaintingTest::workIsThreeAndPlaces);
        Check.test(11, "COLUMNS 10 n to 10 n and 9, ROWS 10 to 19 (the sky), ROWS 0 to 9 (the ground)", PaintingTest::squaresMeet);
        Check.test(11, "WORK of a full SQUARE", PaintingTest::fullSquare);
        Check.test(11, "1 COATS done", PaintingTest::coatsDone);
        Check.test(11, "2 the GANG on it (NONE)", PaintingTest::gangOnIt);
        Check.test(11, "3 WORK still to be done by it", PaintingTest::workToBeDone);
        Check.test(11, "its WORK is told as the COAT begins", PaintingTest::workIsToldAsTheCoatBegins);
        Check.test(11, "4 and 5 the DAY on which a COAT was done (NONE)", PaintingTest::daysOfCoats);
        Check.test(11, "6 which GANG did it last (NONE)", PaintingTest::gangThatDidItLast);
        Check.test(11, "NONE where there is none such: the SQUARE", PaintingTest::noSuchSquare);
        Check.test(11, "NONE where there is none such: what", PaintingTest::nothingElseOfASquare);

        Check.test(12, "the greatest number of DAYS of any is least", PaintingTest::leastOfAllWays);
        Check.test(12, "its WORKS added by its SKILL, cut up", PaintingTest::leastIsCutUp);
        Check.test(12, "the first ones there are", PaintingTest::leastTakesTheFirstGangs);
        Check.test(12, "the WORKS of their first COATS", PaintingTest::leastTakesFirstCoats);
        Check.test(12, "n SQUARES (1 to 6)", PaintingTest::leastOfOneToSixSquares);
        Check.test(12, "from first on (all up to 71)", PaintingTest::leastUpToTheLastSquare);
        Check.test(12, "with k GANGS (1 to 3)", PaintingTest::leastWithOneToThreeGangs);
        Check.test(12, "NONE: there aren't as many GANGS", PaintingTest::leastWithTooFewGangs);
        Check.end();
    }

    private static void newSquaresAreBare() {
        int[] bare = {3, 0, -1, 0, -1, -1, -1};
        for (int square = 0; square < 72; square++) {
            PanoramaHouse x = new PanoramaHouse();
            for (int what = 0; what < bare.length; what++) {
                Check.due("square(" + square + ", " + what + ")", x.square(square, what), bare[what]);
            }
        }
    }

    private static PanoramaHouse withGangs(int... skills) {
        PanoramaHouse x = new PanoramaHouse();
        for (int skill : skills) {
            x.gang(skill);
        }
        return x;
    }

    private static void gangsAreNumbered() {
        PanoramaHouse x = new PanoramaHouse();
        for (int gang = 0; gang < 6; gang++) {
            Check.due("gang(" + (gang + 4) + ")", x.gang(gang + 4), gang);
            Check.due("count(1)", x.count(1), gang + 1);
        }
    }

    private static void leastAndGreatestSkill() {
        PanoramaHouse x = new PanoramaHouse();
        Check.due("gang(1)", x.gang(1), 0);
        Check.due("gang(20)", x.gang(20), 1);
        x.line(0, 20, 0, 20, 9, 1);
        x.line(0, 21, 0, 21, 9, 1);
        x.line(1, 20, 0, 20, 9, 1);
        x.put(0, 36);
        x.put(1, 39);
        x.day();
        Check.due("work less 1", x.square(36, 3), 3 + 10 + 9 - 1);
        Check.due("work of 13 less 20", x.square(39, 1), 1);
    }

    private static void gangRefusesSkills() {
        for (int skill : new int[] {0, 21, -1, Integer.MIN_VALUE, Integer.MAX_VALUE}) {
            Check.refuses(Scenes::livedIn, "gang(" + skill + ")", -1, x -> x.gang(skill));
            Check.refuses(Scenes::empty, "gang(" + skill + ") as the first", -1, x -> x.gang(skill));
        }
    }

    private static void gangRefusesASeventh() {
        Check.Scene six = x -> {
            for (int i = 0; i < 6; i++) {
                x.gang(1 + i);
            }
            x.put(5, 36);
        };
        Check.refuses(six, "gang(20)", -1, x -> x.gang(20));
        Check.refuses(six, "gang(1)", -1, x -> x.gang(1));
        Check.refuses(six, "gang(0)", -1, x -> x.gang(0));
    }

    private static void firstCoat() {
        PanoramaHouse x = withGangs(2);
        Check.due("put(0, 36)", x.put(0, 36), 1);
        Check.due("square(36, 2)", x.square(36, 2), 0);
        Check.due("square(36, 3)", x.square(36, 3), 3);
        Check.due("square(36, 1)", x.square(36, 1), 0);
    }

    private static void lastGangAndSquare() {
        PanoramaHouse x = withGangs(20, 20, 20, 20, 20, 20);
        for (int gang = 0; gang < 6; gang++) {
            Check.due("put(" + gang + ", " + (66 + gang) + ")", x.put(gang, 66 + gang), 1);
        }
        x.day();
        Check.due("put(5, 35)", x.put(5, 35), 1);
        Check.due("put(4, 0)", x.put(4, 0), -7);
        Check.due("put(4, 36)", x.put(4, 36), 1);
        x.day();
        Check.due("put(4, 0) over 36", x.put(4, 0), 1);
        Check.due("put(0, 34) over 70", x.put(0, 34), 1);
    }

    private static void refusesPut(Check.Scene before, int gang, int square, int want) {
        Check.refuses(before, "put(" + gang + ", " + square + ")", want, x -> x.put(gang, square));
    }

    private static void putRefusesNoSuchGang() {
        refusesPut(Scenes::empty, 0, 36, -2);
        refusesPut(Scenes::livedIn, -1, 50, -2);
        refusesPut(Scenes::livedIn, 3, 50, -2);
        refusesPut(Scenes::livedIn, 6, 50, -2);
        for (int far : Scenes.FAR_OUT) {
            refusesPut(Scenes::livedIn, far, 50, -2);
        }
        Check.Scene six = x -> {
            for (int i = 0; i < 6; i++) {
                x.gang(3);
            }
        };
        refusesPut(six, 6, 50, -2);
        refusesPut(six, -1, 50, -2);
    }

    private static void putRefusesNoSuchSquare() {
        Check.Scene oneGang = x -> x.gang(3);
        refusesPut(oneGang, 0, -1, -2);
        refusesPut(oneGang, 0, 72, -2);
        for (int far : Scenes.FAR_OUT) {
            refusesPut(oneGang, 0, far, -2);
        }
    }

    private static void putRefusesABusyGang() {
        Check.Scene busy = x -> {
            x.gang(1);
            x.put(0, 36);
        };
        refusesPut(busy, 0, 37, -3);
        refusesPut(busy.then(x -> x.day()), 0, 71, -3);
        refusesPut(busy.then(x -> Scenes.days(x, 2)), 0, 37, -3);
        PanoramaHouse x = withGangs(1);
        x.put(0, 36);
        Scenes.days(x, 3);
        Check.due("put(0, 37) when the coat is done", x.put(0, 37), 1);
    }

    /** Both coats of ground 36 are done by gang 0 on day 3; gangs 0 and 1 are free. */
    private static void finished(PanoramaHouse x) {
        x.gang(20);
        x.gang(20);
        x.put(0, 36);
        Scenes.days(x, 3);
        x.put(0, 36);
        x.day();
    }

    private static void putRefusesAFinishedSquare() {
        refusesPut(PaintingTest::finished, 0, 36, -4);
        refusesPut(PaintingTest::finished, 1, 36, -4);
        Check.Scene later = x -> {
            finished(x);
            Scenes.days(x, 5);
        };
        refusesPut(later, 0, 36, -4);
        Check.Scene sky = x -> {
            finished(x);
            x.put(0, 0);
            Scenes.days(x, 4);
            x.put(0, 0);
            x.day();
        };
        refusesPut(sky, 0, 0, -4);
    }

    private static void putRefusesATakenSquare() {
        Check.Scene first = x -> {
            x.gang(1);
            x.gang(1);
            x.put(0, 36);
        };
        refusesPut(first, 1, 36, -5);
        refusesPut(first.then(x -> Scenes.days(x, 2)), 1, 36, -5);
        Check.Scene second = x -> {
            x.line(0, 20, 0, 20, 9, 1);
            x.gang(20);
            x.gang(1);
            x.put(0, 36);
            Scenes.days(x, 3);
            x.put(1, 36);
        };
        refusesPut(second, 0, 36, -5);
        refusesPut(second.then(x -> x.day()), 0, 36, -5);
        Check.Scene sky = x -> {
            x.gang(20);
            x.gang(1);
            x.put(0, 36);
            x.day();
            x.put(1, 0);
        };
        refusesPut(sky, 0, 0, -5);
    }

    private static void putRefusesAWetSquare() {
        Check.Scene done = x -> {
            x.gang(20);
            x.put(0, 36);
            x.day();
        };
        refusesPut(done, 0, 36, -6);
        refusesPut(done.then(x -> x.day()), 0, 36, -6);
    }

    private static void dryAfterThreeDays() {
        for (int begun = 0; begun < 4; begun++) {
            for (int wait = 1; wait <= 12; wait++) {
                PanoramaHouse x = withGangs(20);
                Scenes.days(x, begun);
                x.put(0, 50);
                Scenes.days(x, wait);
                Check.due("done on day " + begun + ", put on day " + (begun + wait), x.put(0, 50), wait < 3 ? -6 : 2);
            }
        }
        // Work that took three days dries from the last of them on: done on day 2, dry on day 5.
        PanoramaHouse x = withGangs(1);
        x.put(0, 50);
        Scenes.days(x, 4);
        Check.due("put on day 4", x.put(0, 50), -6);
        x.day();
        Check.due("put on day 5", x.put(0, 50), 2);
    }

    private static void putRefusesSkyFirst() {
        Check.Scene gangs = x -> {
            x.gang(1);
            x.gang(20);
        };
        refusesPut(gangs, 0, 0, -7);
        refusesPut(gangs, 0, 35, -7);
        refusesPut(gangs.then(x -> x.put(0, 36)), 1, 0, -7);
        Check.Scene neighbours = gangs.then(x -> {
            x.put(1, 36);
            x.day();
            x.put(1, 38);
            x.day();
        });
        refusesPut(neighbours, 1, 1, -7);
    }

    private static void putRefusesSkySecond() {
        Check.Scene skyOnce = x -> {
            x.gang(20);
            x.gang(1);
            x.line(0, 20, 0, 20, 9, 1);
            x.put(0, 36);
            x.day();
            x.put(0, 0);
            Scenes.days(x, 4);
        };
        refusesPut(skyOnce, 0, 0, -7);
        refusesPut(skyOnce.then(x -> x.put(1, 36)), 0, 0, -7);
    }

    private static void skyOverItsGround() {
        PanoramaHouse x = withGangs(20);
        x.put(0, 36);
        x.day();
        Check.due("the sky over a ground that is done, not dry", x.put(0, 0), 1);
        Scenes.days(x, 4);
        Check.due("the ground's second coat", x.put(0, 36), 2);
        x.day();
        Check.due("the sky's second coat at once behind it", x.put(0, 0), 2);
        PanoramaHouse y = new PanoramaHouse();
        finished(y);
        Check.due("the sky's first coat over a finished ground", y.put(0, 0), 1);
        Check.due("a ground asks for no other square", y.put(1, 37), 1);
    }

    private static void noneSuchGoesFirst() {
        Check.Scene busy = x -> {
            x.gang(1);
            x.put(0, 36);
        };
        refusesPut(busy, 0, 72, -2);
        refusesPut(busy, 0, -1, -2);
        refusesPut(busy, 1, 36, -2);
        refusesPut(busy, 1, 0, -2);
        refusesPut(PaintingTest::finished, 2, 36, -2);
        refusesPut(Scenes::empty, 0, 0, -2);
    }

    private static void notFreeGoesSecond() {
        Check.Scene busy = x -> {
            finished(x);
            x.put(0, 38);
            x.day();
            x.put(0, 2);
            x.mark(4, 20, 0, 1);
            x.put(1, 48);
        };
        refusesPut(busy, 0, 36, -3);
        refusesPut(busy, 0, 2, -3);
        refusesPut(busy, 0, 48, -3);
        refusesPut(busy, 0, 38, -3);
        refusesPut(busy, 0, 3, -3);
    }

    private static void wetGoesBeforeGround() {
        Check.Scene wetSky = x -> {
            x.gang(20);
            x.put(0, 36);
            x.day();
            x.put(0, 0);
            x.day();
        };
        refusesPut(wetSky, 0, 0, -6);
        refusesPut(wetSky.then(x -> x.day()), 0, 0, -6);
        refusesPut(wetSky.then(x -> Scenes.days(x, 2)), 0, 0, -7);
    }

    /** The work of a second coat of ground 36 that has so many coloured places. */
    private static int secondWork(int places) {
        PanoramaHouse x = withGangs(20);
        for (int i = 0; i < places; i++) {
            x.mark(0, 20, i, 1);
        }
        x.put(0, 36);
        Scenes.days(x, 4);
        Check.due("put of the second coat", x.put(0, 36), 2);
        return x.square(36, 3);
    }

    private static void secondCoatIsHalf() {
        Check.due("of 3", secondWork(0), 1);
        Check.due("of 4", secondWork(1), 2);
        Check.due("of 5", secondWork(2), 2);
        Check.due("of 13", secondWork(10), 6);
    }

    private static void daysAreCounted() {
        PanoramaHouse x = new PanoramaHouse();
        Check.due("TODAY at first", x.count(0), 0);
        for (int day = 1; day <= 400; day++) {
            Check.due("day()", x.day(), day);
        }
        Check.due("count(0)", x.count(0), 400);
    }

    private static void eachGangDoesItsSkill() {
        PanoramaHouse x = withGangs(1, 2, 3, 4, 5, 6);
        for (int gang = 0; gang < 6; gang++) {
            x.line(2 * gang, 20, 0, 20, 9, 1);
            Check.due("put", x.put(gang, 36 + 6 * gang), 1);
        }
        for (int day = 1; day <= 2; day++) {
            x.day();
            for (int gang = 0; gang < 6; gang++) {
                Check.due("work left of gang " + gang, x.square(36 + 6 * gang, 3), 13 - day * (gang + 1));
            }
        }
    }

    private static void coatEndsAtNoWork() {
        PanoramaHouse x = withGangs(2, 3, 4);
        x.put(0, 36);
        x.put(1, 37);
        x.put(2, 38);
        x.day();
        Check.due("2 of 3 done: coats", x.square(36, 1), 0);
        Check.due("2 of 3 done: work left", x.square(36, 3), 1);
        Check.due("3 of 3 done: coats", x.square(37, 1), 1);
        Check.due("3 of 3 done: the day", x.square(37, 4), 0);
        Check.due("4 of 3 done: coats", x.square(38, 1), 1);
        Check.due("4 of 3 done: no work left", x.square(38, 3), 0);
        x.day();
        Check.due("4 of 3 done in two days: coats", x.square(36, 1), 1);
        Check.due("4 of 3 done in two days: no work left", x.square(36, 3), 0);
        Check.due("4 of 3 done in two days: the day", x.square(36, 4), 1);
        Check.due("a coat that was done stays so", x.square(37, 1), 1);
        Check.due("and so does its day", x.square(37, 4), 0);
    }

    private static void gangIsFreeBehindItsCoat() {
        PanoramaHouse x = withGangs(3);
        x.put(0, 36);
        Check.due("put(0, 37) before the day", x.put(0, 37), -3);
        x.day();
        Check.due("nobody is on it", x.square(36, 2), -1);
        Check.due("put(0, 37) behind the day", x.put(0, 37), 1);
        Check.due("square(37, 2)", x.square(37, 2), 0);
    }

    private static void freeGangsRest() {
        Check.Scene idle = x -> {
            x.gang(20);
            x.put(0, 36);
            x.day();
        };
        PanoramaHouse x = new PanoramaHouse();
        idle.play(x);
        Scenes.days(x, 9);
        Check.due("coats of its last square", x.square(36, 1), 1);
        Check.due("and the day", x.square(36, 4), 0);
        Check.due("squares with both coats", x.count(5), 0);
    }

    /** Day 1,000 lies behind call 512, where answers are free; the class keeps the rule all the same. */
    private static void noDayBehindTheLast() {
        PanoramaHouse x = withGangs(1);
        Scenes.days(x, 998);
        Check.due("day() to 999", x.day(), 999);
        x.put(0, 36);
        Check.due("day() to 1,000", x.day(), 1000);
        Check.due("work left", x.square(36, 3), 2);
        Check.due("day() on 1,000", x.day(), -1);
        Check.due("TODAY", x.count(0), 1000);
        Check.due("no work is done", x.square(36, 3), 2);
    }

    private static void workIsThreeAndPlaces() {
        PanoramaHouse x = new PanoramaHouse();
        Check.due("of a bare square", x.square(39, 0), 3);
        x.mark(1, 20, 5, 1);
        Check.due("of one place", x.square(39, 0), 4);
        x.mark(1, 20, 5, 2);
        Check.due("of one place of another colour", x.square(39, 0), 4);
        x.mark(1, 21, 0, 1);
        x.mark(1, 21, 1, 1);
        Check.due("two marks at one place", x.square(39, 0), 5);
        x.mark(1, 21, 1, 0);
        Check.due("one of them taken away", x.square(39, 0), 5);
        x.mark(1, 21, 0, 0);
        Check.due("both taken away", x.square(39, 0), 4);
        // Column 48 is of view 1 (u 38) and of view 2 (u 8).
        x.mark(1, 38, 0, 1);
        x.mark(2, 8, 0, 2);
        Check.due("two views at one place", x.square(40, 0), 4);
        x.mark(2, 8, 0, 0);
        Check.due("one view left there", x.square(40, 0), 4);
        x.mark(1, 38, 0, 0);
        Check.due("none left there", x.square(40, 0), 3);
    }

    /** A mark of view 0 or 11 adds to the work of just one square. */
    private static void belongs(int view, int u, int h, int square) {
        PanoramaHouse x = new PanoramaHouse();
        x.mark(view, u, h, 1);
        for (int other = 0; other < 72; other++) {
            String name = "square(" + other + ", 0) of mark " + view + ", " + u + ", " + h;
            Check.due(name, x.square(other, 0), other == square ? 4 : 3);
        }
    }

    private static void squaresMeet() {
        belongs(0, 20, 9, 36);
        belongs(0, 20, 10, 0);
        belongs(0, 20, 0, 36);
        belongs(0, 20, 19, 0);
        // Columns 9 and 10, rows 9 and 10.
        belongs(0, 29, 10, 36);
        belongs(0, 29, 11, 0);
        belongs(0, 30, 10, 37);
        belongs(0, 30, 11, 1);
        // Columns 359, 350 and 349.
        belongs(0, 19, 0, 71);
        belongs(0, 19, 19, 35);
        belongs(0, 10, 0, 71);
        belongs(0, 10, 19, 35);
        belongs(0, 9, 0, 70);
        belongs(0, 9, 19, 34);
    }

    private static void fullSquare() {
        PanoramaHouse x = withGangs(20);
        for (int u = 20; u < 30; u++) {
            x.line(0, u, 0, u, 19, 1);
        }
        Check.due("the ground", x.square(36, 0), 103);
        // Rows 10 to 19 of k 0, to 18 of k 1 to 7, to 17 of k 8 and 9.
        Check.due("the sky", x.square(0, 0), 3 + 10 + 7 * 9 + 2 * 8);
        x.put(0, 36);
        Scenes.days(x, 5);
        Check.due("work left behind 5 days", x.square(36, 3), 3);
        Scenes.days(x, 4);
        Check.due("the second coat", x.put(0, 36), 2);
        Check.due("half of 103, cut", x.square(36, 3), 51);
    }

    private static void coatsDone() {
        PanoramaHouse x = withGangs(2, 1);
        x.put(0, 36);
        Check.due("begun", x.square(36, 1), 0);
        x.day();
        Check.due("under work", x.square(36, 1), 0);
        x.day();
        Check.due("one", x.square(36, 1), 1);
        Scenes.days(x, 2);
        x.put(1, 36);
        Check.due("the second begun", x.square(36, 1), 1);
        x.day();
        Check.due("two", x.square(36, 1), 2);
        Check.due("its sky", x.square(0, 1), 0);
        Check.due("its neighbour", x.square(37, 1), 0);
    }

    private static void gangOnIt() {
        PanoramaHouse x = withGangs(2, 2);
        Check.due("nobody", x.square(36, 2), -1);
        x.put(1, 36);
        Check.due("gang 1", x.square(36, 2), 1);
        x.put(0, 71);
        Check.due("gang 0", x.square(71, 2), 0);
        x.day();
        Check.due("gang 1 still", x.square(36, 2), 1);
        x.day();
        Check.due("nobody behind the coat", x.square(36, 2), -1);
    }

    private static void workToBeDone() {
        PanoramaHouse x = withGangs(2);
        Check.due("nobody is on it", x.square(36, 3), 0);
        x.put(0, 36);
        Check.due("as it begins", x.square(36, 3), 3);
        x.day();
        Check.due("behind a day", x.square(36, 3), 1);
        x.day();
        Check.due("behind the coat", x.square(36, 3), 0);
    }

    private static void workIsToldAsTheCoatBegins() {
        PanoramaHouse x = withGangs(1, 20);
        x.mark(0, 20, 0, 1);
        x.put(0, 36);
        x.line(0, 20, 0, 20, 9, 1);
        Check.due("more places now", x.square(36, 0), 13);
        Check.due("the work as it was told", x.square(36, 3), 4);
        Scenes.days(x, 7);
        Check.due("the second coat", x.put(0, 36), 2);
        Check.due("half of the work there is as it begins", x.square(36, 3), 6);
        x.line(0, 20, 0, 20, 9, 0);
        Check.due("fewer places now", x.square(36, 0), 3);
        Check.due("the work as it was told", x.square(36, 3), 6);
        Scenes.days(x, 5);
        Check.due("done behind six days, not before", x.square(36, 1), 1);
        x.day();
        Check.due("done behind six days", x.square(36, 1), 2);
    }

    private static void daysOfCoats() {
        PanoramaHouse x = withGangs(2);
        Scenes.days(x, 2);
        x.put(0, 36);
        Check.due("first coat, begun", x.square(36, 4), -1);
        x.day();
        Check.due("first coat, under work", x.square(36, 4), -1);
        x.day();
        Check.due("first coat", x.square(36, 4), 3);
        Check.due("second coat, not begun", x.square(36, 5), -1);
        Scenes.days(x, 5);
        x.put(0, 36);
        Check.due("second coat, begun", x.square(36, 5), -1);
        x.day();
        Check.due("second coat", x.square(36, 5), 9);
        Check.due("first coat still", x.square(36, 4), 3);
        Check.due("of another square", x.square(37, 4), -1);
    }

    private static void gangThatDidItLast() {
        PanoramaHouse x = withGangs(2, 2);
        x.put(1, 36);
        Check.due("begun", x.square(36, 6), -1);
        x.day();
        Check.due("under work", x.square(36, 6), -1);
        x.day();
        Check.due("done", x.square(36, 6), 1);
        Scenes.days(x, 2);
        x.put(0, 36);
        Check.due("the second coat is only begun", x.square(36, 6), 1);
        x.day();
        Check.due("the second coat is done", x.square(36, 6), 0);
        x.put(1, 37);
        Scenes.days(x, 2);
        Check.due("gang 1 did another square", x.square(36, 6), 0);
    }

    private static void noSuchSquare() {
        PanoramaHouse x = new PanoramaHouse();
        Scenes.livedIn(x);
        for (int what = 0; what <= 6; what++) {
            Check.due("square(-1, " + what + ")", x.square(-1, what), -1);
            Check.due("square(72, " + what + ")", x.square(72, what), -1);
            for (int far : Scenes.FAR_OUT) {
                Check.due("square(" + far + ", " + what + ")", x.square(far, what), -1);
            }
        }
        Check.due("square(0, 0)", x.square(0, 0) >= 3, true);
        Check.due("square(71, 0)", x.square(71, 0) >= 3, true);
    }

    private static void nothingElseOfASquare() {
        PanoramaHouse x = new PanoramaHouse();
        finished(x);
        int[] told = {3, 2, -1, 0, 0, 3, 0};
        for (int what = 0; what < told.length; what++) {
            Check.due("square(36, " + what + ")", x.square(36, what), told[what]);
        }
        Check.due("square(36, -1)", x.square(36, -1), -1);
        Check.due("square(36, 7)", x.square(36, 7), -1);
        for (int far : Scenes.FAR_OUT) {
            Check.due("square(36, " + far + ")", x.square(36, far), -1);
        }
    }

    private static void leastOfAllWays() {
        PanoramaHouse x = withGangs(1, 1, 1);
        // Works of grounds 36 to 41: 8, 3, 3, 7, 3, 6.
        x.line(0, 20, 0, 20, 4, 1);
        x.line(1, 20, 0, 20, 3, 1);
        x.line(2, 10, 0, 10, 3, 1);
        int[] works = {8, 3, 3, 7, 3, 6};
        for (int i = 0; i < works.length; i++) {
            Check.due("work of " + (36 + i), x.square(36 + i, 0), works[i]);
        }
        Check.due("8, 3, 3 with two", x.least(36, 3, 2), 8);
        Check.due("8, 3, 3, 7, 3 with two", x.least(36, 5, 2), 13);
        Check.due("all with two", x.least(36, 6, 2), 15);
        Check.due("all with three", x.least(36, 6, 3), 11);
        Check.due("all with one", x.least(36, 6, 1), 30);
        Check.due("the greatest work alone with three", x.least(36, 1, 3), 8);
        // By the skills 20, 1 and 1 the slow ones do best with nothing.
        Check.due("3, 3 with 20, 1, 1", withGangs(20, 1, 1).least(0, 2, 3), 1);
        Check.due("3, 3 with 1, 1, 20", withGangs(1, 1, 20).least(0, 2, 3), 1);
        Check.due("six of 3 with 3, 2, 1", withGangs(3, 2, 1).least(0, 6, 3), 3);
        Check.due("six of 3 with 1, 2, 3", withGangs(1, 2, 3).least(0, 6, 3), 3);
    }

    private static void leastIsCutUp() {
        Check.due("3 by 3", withGangs(3).least(0, 1, 1), 1);
        Check.due("3 by 2", withGangs(2).least(0, 1, 1), 2);
        Check.due("3 by 4", withGangs(4).least(0, 1, 1), 1);
        Check.due("9 by 2, added and then cut up", withGangs(2).least(0, 3, 1), 5);
        Check.due("6 by 20", withGangs(20).least(0, 2, 1), 1);
        Check.due("18 by 17", withGangs(17).least(0, 6, 1), 2);
    }

    private static void leastTakesTheFirstGangs() {
        PanoramaHouse x = withGangs(1, 2, 3, 20);
        Check.due("with the first", x.least(36, 2, 1), 6);
        Check.due("with the first two", x.least(36, 2, 2), 3);
        Check.due("with the first three", x.least(36, 2, 3), 2);
        for (int gang = 0; gang < 4; gang++) {
            x.put(gang, 60 + gang);
        }
        Check.due("though they aren't free", x.least(36, 2, 3), 2);
    }

    private static void leastTakesFirstCoats() {
        PanoramaHouse x = new PanoramaHouse();
        finished(x);
        Check.due("a finished square counts as its first coat", x.least(36, 1, 1), 1);
        x.line(0, 20, 0, 20, 9, 1);
        x.line(0, 21, 0, 21, 9, 1);
        Check.due("by the places it has now", x.least(36, 1, 1), 2);
        Check.Scene before = PaintingTest::finished;
        Check.same("least() changes nothing", before.then(y -> y.least(34, 6, 2)), before);
    }

    private static void leastOfOneToSixSquares() {
        PanoramaHouse x = withGangs(1, 1, 1);
        for (int n = 1; n <= 6; n++) {
            Check.due("least(10, " + n + ", 1)", x.least(10, n, 1), 3 * n);
        }
        for (int n : new int[] {0, 7, -1, Integer.MIN_VALUE, Integer.MAX_VALUE}) {
            Check.due("least(10, " + n + ", 1)", x.least(10, n, 1), -1);
        }
    }

    private static void leastUpToTheLastSquare() {
        PanoramaHouse x = withGangs(1);
        for (int n = 1; n <= 6; n++) {
            Check.due("least(0, " + n + ", 1)", x.least(0, n, 1), 3 * n);
            Check.due("least(" + (72 - n) + ", " + n + ", 1)", x.least(72 - n, n, 1), 3 * n);
            Check.due("least(" + (73 - n) + ", " + n + ", 1)", x.least(73 - n, n, 1), -1);
            Check.due("least(-1, " + n + ", 1)", x.least(-1, n, 1), -1);
            for (int far : Scenes.FAR_OUT) {
                Check.due("least(" + far + ", " + n + ", 1)", x.least(far, n, 1), -1);
            }
        }
        Check.due("from the sky to the ground", x.least(33, 6, 1), 18);
    }

    private static void leastWithOneToThreeGangs() {
        PanoramaHouse x = withGangs(1, 1, 1, 1, 1, 1);
        Check.due("least(0, 6, 1)", x.least(0, 6, 1), 18);
        Check.due("least(0, 6, 2)", x.least(0, 6, 2), 9);
        Check.due("least(0, 6, 3)", x.least(0, 6, 3), 6);
        for (int k : new int[] {0, 4, -1, Integer.MIN_VALUE, Integer.MAX_VALUE}) {
            Check.due("least(0, 6, " + k + ")", x.least(0, 6, k), -1);
        }
    }

    private static void leastWithTooFewGangs() {
        PanoramaHouse x = new PanoramaHouse();
        for (int gangs = 0; gangs <= 3; gangs++) {
            for (int k = 1; k <= 3; k++) {
                String name = "least(0, 1, " + k + ") of " + gangs + " gangs";
                Check.due(name, x.least(0, 1, k), k > gangs ? -1 : 3);
            }
            x.gang(1);
        }
    }
}
