/** Promises 18 to 20: the platform's room, its minutes and its crowd, each sentence by a test of its own. */
public final class PlatformTest {
    private PlatformTest() {
    }

    public static void main(String[] args) {
        Check.test(1, "nobody waits", PlatformTest::newPlatformIsEmpty);

        Check.test(18, "M (1 to 200): true", PlatformTest::leastAndGreatestRoom);
        Check.test(18, "false: another one", PlatformTest::roomRefusesOthers);
        Check.test(18, "Who is there stays", PlatformTest::whoIsThereStays);
        Check.test(18, "holds at most M (40 at first)", PlatformTest::holdsFortyAtFirst);
        Check.test(18, "a greater M lets more go up", PlatformTest::greaterRoom);

        Check.test(19, "A MINUTE with n who come (0 to 500): how many go up", PlatformTest::fewestAndMostWhoCome);
        Check.test(19, "8 at most", PlatformTest::eightAtMost);
        Check.test(19, "as many go up as there is room", PlatformTest::asManyAsThereIsRoom);
        Check.test(19, "of those who wait at the stair", PlatformTest::onlyThoseWhoWait);
        Check.test(19, "those who stayed 12 MINUTES leave", PlatformTest::leaveAfterTwelveMinutes);
        Check.test(19, "they leave; then others go up", PlatformTest::leaveBeforeOthersGoUp);
        Check.test(19, "each MINUTE's own leave 12 MINUTES later", PlatformTest::eachMinutesOwnLeave);
        Check.test(19, "NONE, doing nothing: another n", PlatformTest::minuteRefusesOthers);
        Check.test(19, "NONE, doing nothing: more than 2,000 would wait", PlatformTest::minuteRefusesTooManyWaiting);

        Check.test(20, "On THE PLATFORM (0), waiting (1)", PlatformTest::thereAndWaiting);
        Check.test(20, "who left ever (2)", PlatformTest::whoLeftEver);
        Check.test(20, "MINUTES (3)", PlatformTest::minutesAreCounted);
        Check.test(20, "the most there ever was (4)", PlatformTest::mostThereEverWas);
        Check.test(20, "M (5)", PlatformTest::roomIsTold);
        Check.test(20, "NONE for others", PlatformTest::nothingElseOfTheCrowd);
        Check.end();
    }

    /** There, waiting, left, minutes, the most ever, and M. */
    private static void crowdIs(String when, PanoramaHouse x, int... want) {
        for (int what = 0; what < want.length; what++) {
            Check.due("crowd(" + what + ") " + when, x.crowd(what), want[what]);
        }
    }

    private static void newPlatformIsEmpty() {
        PanoramaHouse x = new PanoramaHouse();
        crowdIs("at first", x, 0, 0, 0, 0, 0, 40);
        Check.due("minute(0)", x.minute(0), 0);
        crowdIs("behind a minute without anybody", x, 0, 0, 0, 1, 0, 40);
    }

    private static void leastAndGreatestRoom() {
        PanoramaHouse x = new PanoramaHouse();
        for (int m = 1; m <= 200; m++) {
            Check.due("room(" + m + ")", x.room(m), true);
            Check.due("crowd(5)", x.crowd(5), m);
        }
        x.room(1);
        Check.due("minute(9) with room for one", x.minute(9), 1);
    }

    private static void roomRefusesOthers() {
        for (int m : new int[] {0, 201, -1, Integer.MIN_VALUE, Integer.MAX_VALUE}) {
            Check.refuses(Scenes::livedIn, "room(" + m + ")", 0, x -> x.room(m) ? 1 : 0);
            Check.refuses(Scenes::empty, "room(" + m + ") of a new house", 0, x -> x.room(m) ? 1 : 0);
        }
    }

    private static void whoIsThereStays() {
        PanoramaHouse x = new PanoramaHouse();
        x.minute(30);
        x.minute(0);
        Check.due("room(1)", x.room(1), true);
        crowdIs("at once", x, 16, 14, 0, 2, 16, 1);
        Check.due("no room for more", x.minute(0), 0);
        crowdIs("behind a minute", x, 16, 14, 0, 3, 16, 1);
        Scenes.minutes(x, 9);
        Check.due("8 left, 8 are there still", x.minute(0), 0);
        crowdIs("in minute 13", x, 8, 14, 8, 13, 16, 1);
        Check.due("all left", x.minute(0), 1);
        crowdIs("in minute 14", x, 1, 13, 16, 14, 16, 1);
    }

    private static void holdsFortyAtFirst() {
        PanoramaHouse x = new PanoramaHouse();
        x.minute(47);
        for (int minute = 2; minute <= 5; minute++) {
            Check.due("minute " + minute, x.minute(0), 8);
        }
        crowdIs("when it is full", x, 40, 7, 0, 5, 40, 40);
        Check.due("minute 6", x.minute(0), 0);
        crowdIs("behind minute 6", x, 40, 7, 0, 6, 40, 40);
    }

    private static void greaterRoom() {
        PanoramaHouse x = new PanoramaHouse();
        x.room(200);
        x.minute(500);
        for (int minute = 2; minute <= 40; minute++) {
            Check.due("minute " + minute, x.minute(0), 8);
        }
        // 8 a minute for 12 minutes: it never holds more than 96.
        crowdIs("behind 40 minutes", x, 96, 180, 224, 40, 96, 200);
        PanoramaHouse y = new PanoramaHouse();
        y.room(10);
        y.minute(30);
        Check.due("room for two", y.minute(0), 2);
        y.room(13);
        Check.due("room for three more", y.minute(0), 3);
        y.room(30);
        Check.due("room for eight more", y.minute(0), 8);
    }

    private static void fewestAndMostWhoCome() {
        PanoramaHouse x = new PanoramaHouse();
        Check.due("minute(0)", x.minute(0), 0);
        Check.due("minute(1)", x.minute(1), 1);
        Check.due("minute(500)", x.minute(500), 8);
        crowdIs("behind them", x, 9, 492, 0, 3, 9, 40);
    }

    private static void eightAtMost() {
        for (int n = 7; n <= 9; n++) {
            PanoramaHouse x = new PanoramaHouse();
            Check.due("minute(" + n + ")", x.minute(n), Math.min(n, 8));
            crowdIs("behind minute(" + n + ")", x, Math.min(n, 8), n - Math.min(n, 8), 0, 1, Math.min(n, 8), 40);
        }
    }

    private static void asManyAsThereIsRoom() {
        for (int m = 7; m <= 10; m++) {
            PanoramaHouse x = new PanoramaHouse();
            x.room(m);
            Check.due("minute(20) of room " + m, x.minute(20), Math.min(m, 8));
            Check.due("minute(0) of room " + m, x.minute(0), Math.max(m - 8, 0));
            Check.due("another", x.minute(0), 0);
            crowdIs("of room " + m, x, m, 20 - m, 0, 3, m, m);
        }
    }

    private static void onlyThoseWhoWait() {
        PanoramaHouse x = new PanoramaHouse();
        Check.due("three come", x.minute(3), 3);
        Check.due("nobody comes", x.minute(0), 0);
        Check.due("nine come", x.minute(9), 8);
        Check.due("the one who waits", x.minute(0), 1);
        Check.due("nobody is left", x.minute(0), 0);
        Check.due("eight come", x.minute(8), 8);
        crowdIs("behind them", x, 20, 0, 0, 6, 20, 40);
    }

    private static void leaveAfterTwelveMinutes() {
        PanoramaHouse x = new PanoramaHouse();
        x.minute(5);
        for (int later = 1; later < 12; later++) {
            x.minute(0);
            crowdIs(later + " minutes later", x, 5, 0, 0, 1 + later);
        }
        x.minute(0);
        crowdIs("12 minutes later", x, 0, 0, 5, 13, 5);
        x.minute(0);
        crowdIs("13 minutes later", x, 0, 0, 5, 14, 5);
    }

    private static void leaveBeforeOthersGoUp() {
        PanoramaHouse x = new PanoramaHouse();
        x.room(8);
        x.minute(20);
        for (int minute = 2; minute <= 12; minute++) {
            Check.due("minute " + minute, x.minute(0), 0);
        }
        Check.due("minute 13", x.minute(0), 8);
        crowdIs("behind minute 13", x, 8, 4, 8, 13, 8, 8);
        Scenes.minutes(x, 11);
        Check.due("minute 25", x.minute(1), 5);
        crowdIs("behind minute 25", x, 5, 0, 16, 25, 8, 8);
    }

    private static void eachMinutesOwnLeave() {
        PanoramaHouse x = new PanoramaHouse();
        x.room(200);
        // Minute i has i % 9 who come and go up at once.
        int there = 0;
        int left = 0;
        for (int minute = 1; minute <= 60; minute++) {
            int gone = minute > 12 ? (minute - 12) % 9 : 0;
            there += minute % 9 - gone;
            left += gone;
            Check.due("minute " + minute, x.minute(minute % 9), minute % 9);
            crowdIs("behind minute " + minute, x, there, 0, left, minute);
        }
    }

    private static void refusesMinute(Check.Scene before, int n) {
        Check.refuses(before, "minute(" + n + ")", -1, x -> x.minute(n));
    }

    private static void minuteRefusesOthers() {
        for (int n : new int[] {-1, 501, Integer.MIN_VALUE, Integer.MAX_VALUE}) {
            refusesMinute(Scenes::livedIn, n);
            refusesMinute(Scenes::empty, n);
        }
        // Where somebody would leave, nobody does in a minute that is refused.
        Check.Scene aboutToLeave = x -> {
            x.minute(5);
            Scenes.minutes(x, 11);
        };
        refusesMinute(aboutToLeave, 501);
        refusesMinute(aboutToLeave, -1);
    }

    /** With room for one, 1 is there and so many wait. */
    private static Check.Scene waiting(int n) {
        return x -> {
            x.room(1);
            x.minute(500);
            x.minute(500);
            x.minute(500);
            x.minute(n - 1499);
        };
    }

    private static void minuteRefusesTooManyWaiting() {
        PanoramaHouse x = new PanoramaHouse();
        waiting(1999).play(x);
        crowdIs("with 1,999 waiting", x, 1, 1999, 0, 4);
        Check.due("2,001 would wait", x.minute(2), -1);
        Check.due("2,000 wait", x.minute(1), 0);
        crowdIs("with 2,000 waiting", x, 1, 2000, 0, 5);
        Check.due("2,001 would wait", x.minute(1), -1);
        Check.due("nobody comes", x.minute(0), 0);
        refusesMinute(waiting(1999), 2);
        refusesMinute(waiting(1999), 500);
        refusesMinute(waiting(1999).then(y -> y.minute(1)), 1);
        refusesMinute(waiting(1501), 500);
        PanoramaHouse y = new PanoramaHouse();
        waiting(1500).play(y);
        Check.due("1,500 wait and 500 come", y.minute(500), 0);
        // Those who come wait at the stair before any go up, even where there is room.
        Check.Scene withRoom = waiting(1999).then(z -> z.room(200));
        refusesMinute(withRoom, 2);
        PanoramaHouse z = new PanoramaHouse();
        withRoom.play(z);
        Check.due("2,000 wait and 8 go up", z.minute(1), 8);
        Check.due("waiting", z.crowd(1), 1992);
    }

    private static void thereAndWaiting() {
        PanoramaHouse x = new PanoramaHouse();
        x.minute(20);
        crowdIs("behind minute 1", x, 8, 12);
        x.minute(3);
        crowdIs("behind minute 2", x, 16, 7);
        x.minute(0);
        crowdIs("behind minute 3", x, 23, 0);
    }

    private static void whoLeftEver() {
        PanoramaHouse x = new PanoramaHouse();
        x.minute(8);
        x.minute(5);
        Scenes.minutes(x, 10);
        Check.due("behind minute 12", x.crowd(2), 0);
        x.minute(0);
        Check.due("behind minute 13", x.crowd(2), 8);
        x.minute(0);
        Check.due("behind minute 14", x.crowd(2), 13);
        Scenes.minutes(x, 20);
        Check.due("behind minute 34", x.crowd(2), 13);
    }

    private static void minutesAreCounted() {
        PanoramaHouse x = new PanoramaHouse();
        for (int minute = 1; minute <= 200; minute++) {
            x.minute(minute % 3);
            Check.due("crowd(3)", x.crowd(3), minute);
        }
    }

    private static void mostThereEverWas() {
        PanoramaHouse x = new PanoramaHouse();
        Check.due("at first", x.crowd(4), 0);
        x.minute(8);
        Check.due("behind minute 1", x.crowd(4), 8);
        x.minute(6);
        Check.due("behind minute 2", x.crowd(4), 14);
        Scenes.minutes(x, 20);
        Check.due("when all have left", x.crowd(0), 0);
        Check.due("the most ever", x.crowd(4), 14);
        x.minute(8);
        Check.due("fewer than ever", x.crowd(4), 14);
        x.minute(7);
        Check.due("more than ever", x.crowd(4), 15);
        // Who leaves and who comes in one minute are never there together.
        PanoramaHouse y = new PanoramaHouse();
        y.minute(8);
        Scenes.minutes(y, 11);
        y.minute(8);
        Check.due("8 left as 8 came", y.crowd(4), 8);
    }

    private static void roomIsTold() {
        PanoramaHouse x = new PanoramaHouse();
        Check.due("at first", x.crowd(5), 40);
        x.room(200);
        Check.due("behind room(200)", x.crowd(5), 200);
        x.room(201);
        Check.due("behind room(201)", x.crowd(5), 200);
        x.minute(9);
        Check.due("behind a minute", x.crowd(5), 200);
    }

    private static void nothingElseOfTheCrowd() {
        PanoramaHouse x = new PanoramaHouse();
        Scenes.livedIn(x);
        for (int what : new int[] {-1, 6, Integer.MIN_VALUE, Integer.MAX_VALUE}) {
            Check.due("crowd(" + what + ")", x.crowd(what), -1);
        }
    }
}
