/** Promises 13 to 17: the tape, contracts and their faults, halls and their weeks, each sentence by a test of its own. */
public final class ContractTest {
    private static final int BLANKS = 0x20202020;

    private ContractTest() {
    }

    public static void main(String[] args) {
        Check.test(13, "Twenty bytes come: how many there are", ContractTest::feedCounts);
        Check.test(13, "behind those on the tape", ContractTest::feedComesBehind);
        Check.test(13, "of each number the highest first", ContractTest::highestByteFirst);
        Check.test(13, "NONE, doing nothing: there would be more than 600", ContractTest::feedRefusesBeyondSixHundred);

        Check.test(14, "The first n bytes are a CONTRACT: the HALL", ContractTest::hallsAreNumbered);
        Check.test(14, "the first n bytes: 0, some, all", ContractTest::hallOfSomeBytes);
        Check.test(14, "the tape (which is empty then)", ContractTest::tapeIsEmptyThen);
        Check.test(14, "NONE: a FAULT", ContractTest::hallWithAFault);
        Check.test(14, "-2, doing nothing: n is below 0", ContractTest::hallRefusesBelowZero);
        Check.test(14, "-2, doing nothing: n is more than there are", ContractTest::hallRefusesMoreThanThereAre);
        Check.test(14, "-3, doing nothing: there are 12", ContractTest::hallRefusesAThirteenth);
        Check.test(14, "-2 before -3", ContractTest::wrongLengthGoesFirst);

        Check.test(15, "NONE: it had none", ContractTest::noFault);
        Check.test(15, "of the latest hall() that was a number or NONE", ContractTest::faultOfTheLatest);
        Check.test(15, "the first token with which no such text goes on", ContractTest::everyTokenEverywhere);
        Check.test(15, "the first byte of the first token", ContractTest::firstOfSeveralFaults);
        Check.test(15, "or byte that begins none", ContractTest::everyByteThatBeginsNone);
        Check.test(15, "the text's length, if more must come", ContractTest::everyBeginningOfAContract);
        Check.test(15, "NUMBER: one to five digits", ContractTest::digitsOfANumber);
        Check.test(15, "of \"part\" 0 to 100 (a part above 100, too)", ContractTest::partsUpToAHundred);
        Check.test(15, "Tokens as long as they go", ContractTest::tokensAsLongAsTheyGo);
        Check.test(15, "words of letters a to z", ContractTest::everyLetterOfAWordCounts);
        Check.test(15, "between them blanks (bytes 32 and 10)", ContractTest::blanksBetweenTokens);
        Check.test(15, "At most 12 statements; the 13th statement: where it begins", ContractTest::thirteenthStatement);
        Check.test(15, "of 3 TESTS; the fourth TEST: where it begins", ContractTest::fourthTest);
        Check.test(15, "the longest CONTRACT", ContractTest::longestContract);

        Check.test(16, "The next WEEK of a HALL, from 1 on", ContractTest::weeksFromOneOn);
        Check.test(16, "RENT, as far as the coins go", ContractTest::rentAsFarAsCoinsGo);
        Check.test(16, "the PART (hundredths, cut)", ContractTest::partIsCut);
        Check.test(16, "of the first \"part\"", ContractTest::firstPartThatHolds);
        Check.test(16, "all whose TESTS hold", ContractTest::allTestsHold);
        Check.test(16, "none: 50", ContractTest::noPartHolds);
        Check.test(16, "SIGN < > =", ContractTest::signsAtTheirEdges);
        Check.test(16, "people or coins are 0 to 99,999", ContractTest::fewestAndMost);
        Check.test(16, "NONE, doing nothing: none such", ContractTest::weekOfNoSuchHall);
        Check.test(16, "NONE, doing nothing: its WEEKS are over", ContractTest::weekBehindTheLast);
        Check.test(16, "NONE, doing nothing: people aren't 0 to 99,999", ContractTest::weekRefusesPeople);
        Check.test(16, "NONE, doing nothing: coins aren't 0 to 99,999", ContractTest::weekRefusesCoins);

        Check.test(17, "0 WEEKS by its CONTRACT (the last \"weeks\"; 1)", ContractTest::lastWeeks);
        Check.test(17, "5 RENT (the last; 0)", ContractTest::lastRent);
        Check.test(17, "1 WEEKS gone, 2 coins that the house got, 3 that the HALL did, 4 people", ContractTest::sumsOfWeeks);
        Check.test(17, "the greatest sums", ContractTest::greatestSums);
        Check.test(17, "HALLS, up to 12", ContractTest::hallsStandApart);
        Check.test(17, "NONE where there is none such: the HALL", ContractTest::noSuchHall);
        Check.test(17, "NONE where there is none such: what", ContractTest::nothingElseOfAHall);
        Check.end();
    }

    private static int feedBlanks(PanoramaHouse x) {
        return x.feed(BLANKS, BLANKS, BLANKS, BLANKS, BLANKS);
    }

    private static void feedCounts() {
        PanoramaHouse x = new PanoramaHouse();
        Check.due("bytes at first", x.count(3), 0);
        for (int i = 1; i <= 30; i++) {
            Check.due("feed", feedBlanks(x), 20 * i);
            Check.due("count(3)", x.count(3), 20 * i);
        }
    }

    private static void feedComesBehind() {
        PanoramaHouse x = new PanoramaHouse();
        Scenes.feedText(x, "weeks 3; rent 12345;");
        Scenes.feedText(x, "rent 7; weeks 54321;");
        Check.due("hall(40)", x.hall(40), 0);
        Check.due("weeks", x.hallOf(0, 0), 54_321);
        Check.due("rent", x.hallOf(0, 5), 7);
    }

    private static void highestByteFirst() {
        PanoramaHouse x = new PanoramaHouse();
        // "rent", " 12;", "week", "s 7;" and "    ".
        x.feed(0x72656E74, 0x2031323B, 0x7765656B, 0x7320373B, BLANKS);
        Check.due("hall(20)", x.hall(20), 0);
        Check.due("rent", x.hallOf(0, 5), 12);
        Check.due("weeks", x.hallOf(0, 0), 7);
        // A byte above 127 is one byte wherever in its number it stands.
        int[] high = {0xFF202020, 0x20FF2020, 0x2020FF20, 0x202020FF};
        for (int i = 0; i < 4; i++) {
            x.feed(BLANKS, BLANKS, BLANKS, BLANKS, high[i]);
            Check.due("a byte 255 at " + (16 + i), x.hall(20), -1);
            Check.due("its place", x.fault(), 16 + i);
            x.feed(high[i], BLANKS, BLANKS, BLANKS, BLANKS);
            Check.due("a byte 255 at " + i, x.hall(20), -1);
            Check.due("its place", x.fault(), i);
        }
    }

    private static void feedRefusesBeyondSixHundred() {
        Check.Scene full = x -> {
            Scenes.feedText(x, "weeks 3; rent 9;    ");
            for (int i = 1; i < 30; i++) {
                feedBlanks(x);
            }
        };
        Check.refuses(full, "feed at 600", -1, x -> x.feed(0x72656E74, 0x2031323B, 1, 2, 3));
        PanoramaHouse x = new PanoramaHouse();
        full.play(x);
        Check.due("feed at 600", x.feed(1, 2, 3, 4, 5), -1);
        Check.due("hall(600)", x.hall(600), 0);
        Check.due("rent", x.hallOf(0, 5), 9);
        Check.due("feed on a tape that is empty again", x.feed(1, 2, 3, 4, 5), 20);
    }

    private static void hallsAreNumbered() {
        PanoramaHouse x = new PanoramaHouse();
        for (int hall = 0; hall < 12; hall++) {
            Check.due("hall", Scenes.contract(x, "rent " + hall + ";"), hall);
            Check.due("count(2)", x.count(2), hall + 1);
            Check.due("its rent", x.hallOf(hall, 5), hall);
        }
    }

    private static void hallOfSomeBytes() {
        PanoramaHouse x = new PanoramaHouse();
        Check.due("hall(0) of an empty tape", x.hall(0), 0);
        Scenes.feedText(x, "rent 5; weeks 4;?");
        Check.due("hall(0) of some bytes", x.hall(0), 1);
        Check.due("no rent is read", x.hallOf(1, 5), 0);
        Scenes.feedText(x, "rent 5; weeks 4;?");
        Check.due("hall(7)", x.hall(7), 2);
        Check.due("rent", x.hallOf(2, 5), 5);
        Check.due("weeks behind it aren't read", x.hallOf(2, 0), 1);
        Scenes.feedText(x, "rent 5; weeks 4;   \n");
        Check.due("hall(20), all there are", x.hall(20), 3);
        Check.due("weeks", x.hallOf(3, 0), 4);
    }

    private static void tapeIsEmptyThen() {
        PanoramaHouse x = new PanoramaHouse();
        Scenes.feedText(x, "rent 5; weeks 4; rent 6; weeks 8; ");
        Check.due("a hall of the first 7 bytes", x.hall(7), 0);
        Check.due("bytes behind a number", x.count(3), 0);
        Check.due("hall(1)", x.hall(1), -2);
        Scenes.feedText(x, "rent x; weeks 4; rent 6; weeks 8; ");
        Check.due("a fault in the first 7 bytes", x.hall(7), -1);
        Check.due("bytes behind a fault", x.count(3), 0);
        Check.due("hall(1)", x.hall(1), -2);
        Check.due("new bytes begin the tape anew", Scenes.contract(x, "rent 9;"), 1);
        Check.due("rent", x.hallOf(1, 5), 9);
        Check.due("weeks", x.hallOf(1, 0), 1);
        feedBlanks(x);
        Check.due("hall(0) of some bytes", x.hall(0), 2);
        Check.due("bytes behind hall(0)", x.count(3), 0);
    }

    private static void hallWithAFault() {
        PanoramaHouse x = new PanoramaHouse();
        Check.due("hall", Scenes.contract(x, "weeks 9; rent 8; part 7 if week = 1; rent"), -1);
        Check.due("no hall is made", x.count(2), 0);
        Check.due("hallOf(0, 0)", x.hallOf(0, 0), -1);
        Check.due("week(0, 1, 100)", x.week(0, 1, 100), -1);
        Check.due("the next one's number", Scenes.contract(x, ""), 0);
        Check.due("its weeks", x.hallOf(0, 0), 1);
        Check.due("its rent", x.hallOf(0, 5), 0);
        Check.due("its part", x.week(0, 1, 100), 50);
        Scenes.contract(x, "part 7 if week = 2 and coins = 5; rent");
        Check.due("a part without tests behind a faulty one with them", Scenes.contract(x, "part 30;"), 1);
        Check.due("its part", x.week(1, 1, 100), 30);
    }

    private static void refusesHall(Check.Scene before, int n, int want) {
        Check.refuses(before, "hall(" + n + ")", want, x -> x.hall(n));
    }

    private static void hallRefusesBelowZero() {
        refusesHall(Scenes::livedIn, -1, -2);
        refusesHall(Scenes::livedIn, Integer.MIN_VALUE, -2);
        refusesHall(Scenes::empty, -1, -2);
    }

    private static void hallRefusesMoreThanThereAre() {
        refusesHall(Scenes::empty, 1, -2);
        refusesHall(Scenes::livedIn, 21, -2);
        refusesHall(Scenes::livedIn, 601, -2);
        refusesHall(Scenes::livedIn, Integer.MAX_VALUE, -2);
        Check.Scene full = x -> {
            for (int i = 0; i < 30; i++) {
                feedBlanks(x);
            }
        };
        refusesHall(full, 601, -2);
    }

    private static void twelveHalls(PanoramaHouse x) {
        Scenes.contract(x, "part 101;");
        for (int i = 0; i < 12; i++) {
            Scenes.contract(x, "weeks 3;");
        }
    }

    private static void hallRefusesAThirteenth() {
        Check.Scene twelve = ContractTest::twelveHalls;
        refusesHall(twelve, 0, -3);
        Check.Scene withTape = twelve.then(x -> Scenes.feedText(x, "rent 5;"));
        refusesHall(withTape, 0, -3);
        refusesHall(withTape, 7, -3);
        refusesHall(withTape, 20, -3);
        refusesHall(withTape, 3, -3);
        PanoramaHouse x = new PanoramaHouse();
        withTape.play(x);
        x.hall(3);
        Check.due("the tape stays", x.count(3), 20);
        Check.due("no fault is told", x.fault(), -1);
    }

    private static void wrongLengthGoesFirst() {
        Check.Scene twelve = ContractTest::twelveHalls;
        refusesHall(twelve, -1, -2);
        refusesHall(twelve, 1, -2);
        refusesHall(twelve.then(x -> Scenes.feedText(x, "rent 5;")), 21, -2);
    }

    private static void noFault() {
        PanoramaHouse x = new PanoramaHouse();
        Check.due("fault() without a hall()", x.fault(), -1);
        x.hall(0);
        Check.due("fault() of an empty text", x.fault(), -1);
        Scenes.contract(x, "weeks 3;");
        Check.due("fault() of a contract", x.fault(), -1);
    }

    private static void faultOfTheLatest() {
        PanoramaHouse x = new PanoramaHouse();
        x.hall(-1);
        Check.due("behind a -2", x.fault(), -1);
        Scenes.contract(x, "weeks x;");
        Check.due("a fault", x.fault(), 6);
        Check.due("asked again", x.fault(), 6);
        x.hall(1);
        Check.due("a -2 behind it", x.fault(), 6);
        Scenes.contract(x, "x");
        Check.due("another fault, at 0", x.fault(), 0);
        Scenes.contract(x, "weeks 1;");
        Check.due("a number behind it", x.fault(), -1);
        x.hall(-1);
        Check.due("a -2 behind a number", x.fault(), -1);
        for (int i = 1; i < 11; i++) {
            x.hall(0);
        }
        Scenes.contract(x, "weeks ?");
        Check.due("a fault with 11 halls there", x.fault(), 6);
        x.hall(0);
        Check.due("the twelfth hall", x.fault(), -1);
        Scenes.feedText(x, "x");
        Check.due("a thirteenth", x.hall(1), -3);
        Check.due("a -3 behind it", x.fault(), -1);
    }

    /** The text is no contract, and its fault is at that place. */
    private static void faultAt(String text, int place) {
        PanoramaHouse x = new PanoramaHouse();
        Check.due("hall of [" + text + "]", Scenes.contract(x, text), -1);
        Check.due("fault of [" + text + "]", x.fault(), place);
    }

    private static void holds(String text) {
        PanoramaHouse x = new PanoramaHouse();
        Check.due("hall of [" + text + "]", Scenes.contract(x, text), 0);
        Check.due("fault of [" + text + "]", x.fault(), -1);
    }

    private static boolean isAmong(String token, String tokens) {
        return (" " + tokens + " ").contains(" " + token + " ");
    }

    /** What comes before a token, and the tokens that go on from there. */
    private static final String[][] GOES_ON = {
        {"", "weeks rent part"},
        {"weeks ", "0 100 101 99999 00007"},
        {"weeks 1 ", ";"},
        {"rent ", "0 100 101 99999 00007"},
        {"rent 1 ", ";"},
        {"part ", "0 100 00007"},
        {"part 1 ", "if ;"},
        {"part 1 if ", "week people coins"},
        {"part 1 if week ", "< > ="},
        {"part 1 if people ", "< > ="},
        {"part 1 if coins ", "< > ="},
        {"part 1 if week < ", "0 100 101 99999 00007"},
        {"part 1 if week < 1 ", "and ;"},
        {"part 1 if week < 1 and ", "week people coins"},
        {"part 1 if week < 1 and coins ", "< > ="},
        {"part 1 if week < 1 and coins = ", "0 100 101 99999 00007"},
        {"part 1 if week < 1 and coins = 1 ", "and ;"},
        {"part 1 if week < 1 and coins = 1 and people > 2 ", "and ;"},
        {"rent 1; ", "weeks rent part"},
        {"weeks 1; ", "weeks rent part"},
        {"part 1; ", "weeks rent part"},
        {"part 1 if week < 1; ", "weeks rent part"},
    };

    private static final String[] TOKENS = {
        "weeks", "rent", "part", "if", "and", "week", "people", "coins", "<", ">", "=", ";",
        "0", "100", "101", "99999", "00007", "100000", "000000", "x", "weekss", "wee", "?", "Weeks",
    };

    private static void everyTokenEverywhere() {
        for (String[] state : GOES_ON) {
            for (String token : TOKENS) {
                String text = state[0] + token;
                if (!isAmong(token, state[1])) {
                    faultAt(text, state[0].length());
                    faultAt(text + " ; ?", state[0].length());
                } else if (token.equals(";")) {
                    holds(text);
                } else {
                    faultAt(text, text.length());
                }
            }
        }
    }

    private static void firstOfSeveralFaults() {
        faultAt("rent ? ? weeks", 5);
        faultAt("rent x; part 101;", 5);
        faultAt("rent 1; part 101; ?", 13);
        faultAt("rent 1; part 100; ?", 18);
        faultAt("part 101 if weeks", 5);
        faultAt("part 5 if weeks > 100000;", 10);
    }

    private static void everyByteThatBeginsNone() {
        for (int here = 0; here < 256; here++) {
            boolean blank = here == 32 || here == 10;
            String text = "rent 1; " + (char) here;
            if (blank) {
                holds(text);
            } else {
                faultAt(text, 8);
            }
            // Within a word or a number: a letter or a digit goes on with it, a blank ends it, others are the fault.
            String inWord = "rent" + (char) here + "5;";
            if (here >= 'a' && here <= 'z') {
                faultAt(inWord, 0);
            } else if (blank || here >= '0' && here <= '9') {
                holds(inWord);
            } else {
                faultAt(inWord, 4);
            }
            String inNumber = "rent 5" + (char) here + "5;";
            if (here >= '0' && here <= '9') {
                holds(inNumber);
            } else if (blank) {
                faultAt(inNumber, 7);
            } else {
                faultAt(inNumber, here == ';' ? 7 : 6);
            }
        }
    }

    private static void everyBeginningOfAContract() {
        String text = "part 50 if week>1and coins =99999 ;";
        // Of each beginning, by its length, the fault; -1 where it is a contract.
        int[] places = {
            -1, 0, 0, 0, 4, 5, 6, 7, 8, 8, 10, 11, 11, 11, 11, 15, 16, 17, 17, 17, 20, 21, 21, 21, 21, 21, 26, 27,
            28, 29, 30, 31, 32, 33, 34, -1,
        };
        Check.due("the lengths tried", places.length, text.length() + 1);
        for (int n = 0; n < places.length; n++) {
            PanoramaHouse x = new PanoramaHouse();
            Scenes.feedText(x, text);
            Check.due("hall(" + n + ")", x.hall(n), places[n] < 0 ? 0 : -1);
            Check.due("fault of [" + text.substring(0, n) + "]", x.fault(), places[n]);
        }
        faultAt("weeks  \n", 8);
        faultAt("weeks 3   ", 10);
        faultAt("rent 1; rent 2 ", 15);
    }

    private static void digitsOfANumber() {
        for (String word : new String[] {"weeks ", "rent "}) {
            holds(word + "0;");
            holds(word + "9;");
            holds(word + "99999;");
            holds(word + "00000;");
            faultAt(word + "100000;", word.length());
            faultAt(word + "000000;", word.length());
            faultAt(word + "000001;", word.length());
            faultAt(word + "99999999999999999999;", word.length());
            faultAt(word + "4294967297;", word.length());
            faultAt(word + ";", word.length());
            faultAt(word + "-1;", word.length());
        }
        holds("part 1 if week = 99999;");
        faultAt("part 1 if week = 100000;", 17);
        faultAt("part 1 if week = 000001;", 17);
        faultAt("part 1 if week = ;", 17);
        PanoramaHouse x = new PanoramaHouse();
        Scenes.contract(x, "weeks 99999; rent 01234;");
        Check.due("weeks", x.hallOf(0, 0), 99_999);
        Check.due("rent", x.hallOf(0, 5), 1_234);
    }

    private static int houseGets(String text, int people, int coins) {
        PanoramaHouse x = new PanoramaHouse();
        Check.due("hall of [" + text + "]", Scenes.contract(x, text), 0);
        return x.week(0, people, coins);
    }

    private static void partsUpToAHundred() {
        Check.due("part 0", houseGets("part 0;", 1, 1000), 0);
        Check.due("part 1", houseGets("part 1;", 1, 1000), 10);
        Check.due("part 99", houseGets("part 99;", 1, 1000), 990);
        Check.due("part 100", houseGets("part 100;", 1, 1000), 1000);
        Check.due("part 00100", houseGets("part 00100;", 1, 1000), 1000);
        faultAt("part 101;", 5);
        faultAt("part 00101;", 5);
        faultAt("part 99999;", 5);
        faultAt("part 000100;", 5);
        faultAt("part 101 if week = 1;", 5);
        faultAt("part 101", 5);
        holds("part 5 if week = 101;");
    }

    private static void tokensAsLongAsTheyGo() {
        holds("weeks3;rent4;part5if week=1and people=10and coins=1000;");
        holds("part 1if week<2;");
        holds("part 1 if week<2and week>0;");
        faultAt("weeksweeks 3;", 0);
        faultAt("weekss 3;", 0);
        faultAt("week s 3;", 0);
        faultAt("wee ks 3;", 0);
        faultAt("rent 1 2;", 7);
        faultAt("part 1 ifweek<2;", 7);
        faultAt("part 1 if week<2 andweek>0;", 17);
        faultAt("part 1 if weeks<2;", 10);
        faultAt("part 1 if week>=2;", 15);
        faultAt("part 1 if week==2;", 15);
        faultAt("rent 1;;", 7);
        faultAt("rent 12rent 3;", 7);
    }

    /** With any one letter of its word at the place another one, missing or doubled, the text is faulty there. */
    private static void letterByLetter(String before, String word, String behind) {
        holds(before + word + behind);
        for (int i = 0; i < word.length(); i++) {
            String head = word.substring(0, i);
            String tail = word.substring(i + 1);
            faultAt(before + head + (char) ('a' + (word.charAt(i) - 'a' + 1) % 26) + tail + behind, before.length());
            faultAt(before + head + word.charAt(i) + word.charAt(i) + tail + behind, before.length());
            faultAt(before + head + tail + behind, before.length());
        }
    }

    private static void everyLetterOfAWordCounts() {
        letterByLetter("", "weeks", " 3;");
        letterByLetter("", "rent", " 3;");
        letterByLetter("", "part", " 3;");
        letterByLetter("part 3 ", "if", " week = 1;");
        letterByLetter("part 3 if ", "week", " = 1;");
        letterByLetter("part 3 if ", "people", " = 1;");
        letterByLetter("part 3 if ", "coins", " = 1;");
        letterByLetter("part 3 if week = 1 ", "and", " week = 1;");
    }

    private static void blanksBetweenTokens() {
        holds("");
        holds(" ");
        holds("\n");
        holds("  \n\n  ");
        holds("weeks\n3\n;\n");
        holds("\n\n  weeks     3    ;rent  \n 4 ; ");
        faultAt("weeks\t3;", 5);
        faultAt("weeks\r3;", 5);
        faultAt("weeks\u00a03;", 5);
        faultAt("weeks\u00003;", 5);
        faultAt("\t", 0);
        faultAt("  \n\r", 3);
        PanoramaHouse x = new PanoramaHouse();
        for (int i = 0; i < 30; i++) {
            feedBlanks(x);
        }
        Check.due("600 blanks", x.hall(600), 0);
    }

    private static void thirteenthStatement() {
        String[] one = {"rent 1;", "weeks 1;", "part 1;", "part 1 if week=1;"};
        for (String statement : one) {
            String twelve = statement.repeat(12);
            holds(twelve);
            holds(twelve + " \n ");
            faultAt(twelve + statement, twelve.length());
            faultAt(twelve + " \n" + statement, twelve.length() + 2);
            faultAt(twelve + "part 101;", twelve.length());
            faultAt(twelve + "rent", twelve.length());
            faultAt(twelve + "?", twelve.length());
            faultAt(twelve + ";", twelve.length());
            String eleven = statement.repeat(11);
            faultAt(eleven + "rent", eleven.length() + 4);
            faultAt(eleven + "part 101;", eleven.length() + 5);
        }
    }

    private static void fourthTest() {
        String three = "part 5 if week>1 and people<2 and coins=3";
        holds(three + ";");
        faultAt(three, three.length());
        faultAt(three + " and week=1;", three.length() + 5);
        faultAt(three + "and  coins<1;", three.length() + 5);
        faultAt(three + " and ;", three.length() + 5);
        faultAt(three + " and 7", three.length() + 5);
        faultAt(three + " and ?", three.length() + 5);
        faultAt(three + " and", three.length() + 4);
        faultAt(three + " and \n", three.length() + 6);
        // Each statement has three of its own.
        String twice = "rent 1;" + three + ";" + three;
        holds(twice + ";");
        faultAt(twice + " and week=1;", twice.length() + 5);
        holds((three + ";").repeat(12));
        faultAt((three + ";").repeat(11) + three + " and week=1;", 11 * 42 + 41 + 5);
    }

    private static void longestContract() {
        StringBuilder text = new StringBuilder();
        for (int i = 0; i < 11; i++) {
            text.append("part 1 if week>1 and week>1 and week>1;\n");
        }
        text.append("part 12 if week=1 and people<11 and coins>999;");
        while (text.length() < 600) {
            text.append(' ');
        }
        Check.due("the twelfth part", houseGets(text.toString(), 10, 1000), 120);
        text.setCharAt(599, '?');
        faultAt(text.toString(), 599);
        text.setCharAt(599, ' ');
        text.setCharAt(text.indexOf("999;") + 3, ' ');
        faultAt(text.toString(), 600);
    }

    private static void weeksFromOneOn() {
        PanoramaHouse x = new PanoramaHouse();
        Scenes.contract(x, "weeks 4; part 1 if week=0; part 10 if week=1; part 20 if week=2; part 30 if week=3; part 40 if week=4;");
        for (int week = 1; week <= 4; week++) {
            Check.due("week " + week, x.week(0, 1, 1000), 100 * week);
            Check.due("weeks gone", x.hallOf(0, 1), week);
        }
        Check.due("week 5", x.week(0, 1, 1000), -1);
    }

    private static void rentAsFarAsCoinsGo() {
        String text = "rent 100; part 100;";
        int[][] coinsAndGot = {{0, 0}, {1, 0}, {99, 0}, {100, 0}, {101, 1}, {99_999, 99_899}};
        for (int[] c : coinsAndGot) {
            PanoramaHouse x = new PanoramaHouse();
            Scenes.contract(x, text);
            Check.due("week(0, 1, " + c[0] + ")", x.week(0, 1, c[0]), c[1]);
            Check.due("to the house", x.hallOf(0, 2), c[1]);
            Check.due("to the hall", x.hallOf(0, 3), c[0] - c[1]);
        }
        Check.due("the greatest rent", houseGets("rent 99999; part 100;", 1, 99_999), 0);
        Check.due("no rent", houseGets("rent 0; part 100;", 1, 99_999), 99_999);
    }

    private static void partIsCut() {
        Check.due("33 of 3", houseGets("part 33;", 1, 3), 0);
        Check.due("33 of 4", houseGets("part 33;", 1, 4), 1);
        Check.due("99 of 1", houseGets("part 99;", 1, 1), 0);
        Check.due("100 of 1", houseGets("part 100;", 1, 1), 1);
        Check.due("50 of 101", houseGets("", 1, 101), 50);
        Check.due("33 of 99,999", houseGets("part 33;", 1, 99_999), 32_999);
        PanoramaHouse x = new PanoramaHouse();
        Scenes.contract(x, "weeks 2; rent 10; part 33;");
        x.week(0, 1, 15);
        Check.due("what is left is the hall's", x.hallOf(0, 3), 14);
    }

    private static void firstPartThatHolds() {
        Check.due("two without tests", houseGets("part 10; part 20;", 1, 100), 10);
        Check.due("the first holds", houseGets("part 10 if week=1; part 20;", 1, 100), 10);
        Check.due("the second holds", houseGets("part 10 if week=2; part 20; part 30;", 1, 100), 20);
        Check.due("the last holds", houseGets("part 10 if week=2; part 20 if week=3; part 30;", 1, 100), 30);
        Check.due("part 0 that holds", houseGets("part 0 if week=1; part 20;", 1, 100), 0);
        Check.due("rent behind the part", houseGets("part 10; rent 50;", 1, 150), 10);
    }

    private static void allTestsHold() {
        Check.due("three", houseGets("part 10 if week=1 and people=7 and coins=100;", 7, 100), 10);
        Check.due("the first does not", houseGets("part 10 if week=2 and people=7 and coins=100;", 7, 100), 50);
        Check.due("the second does not", houseGets("part 10 if week=1 and people=8 and coins=100;", 7, 100), 50);
        Check.due("the third does not", houseGets("part 10 if week=1 and people=7 and coins=99;", 7, 100), 50);
        Check.due("two of one subject", houseGets("part 10 if people>5 and people<8;", 7, 100), 10);
        Check.due("coins as told, not what the rent leaves", houseGets("rent 50; part 10 if coins=100;", 7, 100), 5);
        Check.due("a part's tests are its own", houseGets("part 10 if week=2; part 20 if week=1;", 7, 100), 20);
    }

    private static void noPartHolds() {
        Check.due("no part at all", houseGets("", 1, 100), 50);
        Check.due("one that doesn't hold", houseGets("part 10 if week=2;", 1, 100), 50);
        Check.due("with a rent", houseGets("rent 10; part 10 if week=2;", 1, 111), 50);
    }

    private static void signsAtTheirEdges() {
        for (int number = 4; number <= 6; number++) {
            int less = number < 5 ? 10 : 50;
            int more = number > 5 ? 10 : 50;
            int even = number == 5 ? 10 : 50;
            Check.due("people < 5 of " + number, houseGets("part 10 if people<5;", number, 100), less);
            Check.due("people > 5 of " + number, houseGets("part 10 if people>5;", number, 100), more);
            Check.due("people = 5 of " + number, houseGets("part 10 if people=5;", number, 100), even);
        }
        Check.due("coins < 100 of 100", houseGets("part 10 if coins<100;", 1, 100), 50);
        Check.due("coins < 101 of 100", houseGets("part 10 if coins<101;", 1, 100), 10);
        Check.due("coins > 100 of 100", houseGets("part 10 if coins>100;", 1, 100), 50);
        Check.due("coins > 99 of 100", houseGets("part 10 if coins>99;", 1, 100), 10);
        Check.due("week < 1 in week 1", houseGets("part 10 if week<1;", 1, 100), 50);
        Check.due("week < 2 in week 1", houseGets("part 10 if week<2;", 1, 100), 10);
        Check.due("week > 1 in week 1", houseGets("part 10 if week>1;", 1, 100), 50);
        Check.due("week > 0 in week 1", houseGets("part 10 if week>0;", 1, 100), 10);
        Check.due("people = 99,999", houseGets("part 10 if people=99999;", 99_999, 100), 10);
        Check.due("coins = 0", houseGets("part 10 if coins>0; part 0;", 1, 0), 0);
    }

    private static void fewestAndMost() {
        PanoramaHouse x = new PanoramaHouse();
        Scenes.contract(x, "weeks 4; part 100;");
        Check.due("week(0, 0, 0)", x.week(0, 0, 0), 0);
        Check.due("week(0, 99999, 0)", x.week(0, 99_999, 0), 0);
        Check.due("week(0, 0, 99999)", x.week(0, 0, 99_999), 99_999);
        Check.due("week(0, 99999, 99999)", x.week(0, 99_999, 99_999), 99_999);
        Check.due("weeks gone", x.hallOf(0, 1), 4);
        Check.due("people", x.hallOf(0, 4), 199_998);
    }

    private static void refusesWeek(Check.Scene before, int hall, int people, int coins) {
        String name = "week(" + hall + ", " + people + ", " + coins + ")";
        Check.refuses(before, name, -1, x -> x.week(hall, people, coins));
    }

    private static void weekOfNoSuchHall() {
        refusesWeek(Scenes::empty, 0, 1, 1);
        refusesWeek(Scenes::livedIn, -1, 1, 1);
        refusesWeek(Scenes::livedIn, 2, 1, 1);
        refusesWeek(Scenes::livedIn, 11, 1, 1);
        refusesWeek(Scenes::livedIn, 12, 1, 1);
        refusesWeek(ContractTest::twelveHalls, 12, 1, 1);
        refusesWeek(ContractTest::twelveHalls, -1, 1, 1);
        for (int far : Scenes.FAR_OUT) {
            refusesWeek(Scenes::livedIn, far, 1, 1);
        }
        PanoramaHouse x = new PanoramaHouse();
        twelveHalls(x);
        Check.due("week(11, 1, 100)", x.week(11, 1, 100), 50);
    }

    private static void weekBehindTheLast() {
        refusesWeek(Scenes::livedIn, 1, 5, 500);
        refusesWeek(x -> Scenes.contract(x, "weeks 0;"), 0, 5, 500);
        Check.Scene three = x -> {
            Scenes.contract(x, "weeks 3;");
            x.week(0, 1, 10);
            x.week(0, 1, 10);
        };
        refusesWeek(three.then(x -> x.week(0, 1, 10)), 0, 5, 500);
        PanoramaHouse x = new PanoramaHouse();
        three.play(x);
        Check.due("the last week", x.week(0, 5, 500), 250);
    }

    private static void weekRefusesPeople() {
        for (int people : new int[] {-1, 100_000, Integer.MIN_VALUE, Integer.MAX_VALUE}) {
            refusesWeek(Scenes::livedIn, 0, people, 500);
        }
    }

    private static void weekRefusesCoins() {
        for (int coins : new int[] {-1, 100_000, Integer.MIN_VALUE, Integer.MAX_VALUE}) {
            refusesWeek(Scenes::livedIn, 0, 5, coins);
        }
    }

    private static int told(String text, int what) {
        PanoramaHouse x = new PanoramaHouse();
        Check.due("hall of [" + text + "]", Scenes.contract(x, text), 0);
        return x.hallOf(0, what);
    }

    private static void lastWeeks() {
        Check.due("none", told("", 0), 1);
        Check.due("rent alone", told("rent 5;", 0), 1);
        Check.due("one", told("weeks 7;", 0), 7);
        Check.due("two", told("weeks 7; weeks 3;", 0), 3);
        Check.due("two, others between", told("weeks 3; rent 9; part 5; weeks 7;", 0), 7);
        Check.due("weeks 0", told("weeks 0;", 0), 0);
        Check.due("weeks 0 behind another", told("weeks 7; weeks 0;", 0), 0);
        Check.due("the most weeks", told("weeks 99999;", 0), 99_999);
    }

    private static void lastRent() {
        Check.due("none", told("", 5), 0);
        Check.due("weeks alone", told("weeks 5;", 5), 0);
        Check.due("one", told("rent 7;", 5), 7);
        Check.due("two", told("rent 7; rent 3;", 5), 3);
        Check.due("rent 0 behind another", told("rent 7; weeks 2; rent 0;", 5), 0);
        Check.due("the greatest rent", told("rent 99999;", 5), 99_999);
        Check.due("the last rent is paid", houseGets("rent 90; part 100; rent 10;", 1, 100), 90);
    }

    private static void sumsOfWeeks() {
        PanoramaHouse x = new PanoramaHouse();
        Scenes.contract(x, "weeks 3; rent 10; part 30;");
        int[][] sums = {{3, 0, 0, 0, 0, 10}, {3, 1, 3, 17, 4, 10}, {3, 2, 3, 22, 4, 10}, {3, 3, 30, 95, 11, 10}};
        for (int week = 0; week <= 3; week++) {
            for (int what = 0; what <= 5; what++) {
                Check.due("hallOf(0, " + what + ") behind week " + week, x.hallOf(0, what), sums[week][what]);
            }
            switch (week) {
                case 0: x.week(0, 4, 20); break;
                case 1: x.week(0, 0, 5); break;
                case 2: x.week(0, 7, 100); break;
                default: break;
            }
        }
    }

    private static void greatestSums() {
        PanoramaHouse x = new PanoramaHouse();
        Scenes.contract(x, "weeks 99999; part 100 if week < 251; part 0;");
        for (int week = 1; week <= 500; week++) {
            Check.due("week " + week, x.week(0, 99_999, 99_999), week < 251 ? 99_999 : 0);
        }
        Check.due("to the house", x.hallOf(0, 2), 250 * 99_999);
        Check.due("to the hall", x.hallOf(0, 3), 250 * 99_999);
        Check.due("people", x.hallOf(0, 4), 500 * 99_999);
    }

    private static void hallsStandApart() {
        PanoramaHouse x = new PanoramaHouse();
        for (int hall = 0; hall < 12; hall++) {
            Scenes.contract(x, "weeks " + (hall + 2) + "; rent " + hall + "; part " + (5 * hall) + ";");
        }
        for (int hall = 0; hall < 12; hall += 11) {
            x.week(hall, 3, 111);
        }
        for (int hall = 0; hall < 12; hall++) {
            boolean had = hall == 0 || hall == 11;
            int house = hall == 11 ? 55 : 0;
            int[] want = {hall + 2, had ? 1 : 0, house, had ? 111 - house : 0, had ? 3 : 0, hall};
            for (int what = 0; what < want.length; what++) {
                Check.due("hallOf(" + hall + ", " + what + ")", x.hallOf(hall, what), want[what]);
            }
        }
    }

    private static void noSuchHall() {
        PanoramaHouse bare = new PanoramaHouse();
        PanoramaHouse lived = new PanoramaHouse();
        PanoramaHouse full = new PanoramaHouse();
        Scenes.livedIn(lived);
        twelveHalls(full);
        for (int what = 0; what <= 5; what++) {
            Check.due("hallOf(0, " + what + ") of none", bare.hallOf(0, what), -1);
            Check.due("hallOf(2, " + what + ") of two", lived.hallOf(2, what), -1);
            Check.due("hallOf(11, " + what + ") of two", lived.hallOf(11, what), -1);
            Check.due("hallOf(12, " + what + ") of twelve", full.hallOf(12, what), -1);
            Check.due("hallOf(-1, " + what + ") of twelve", full.hallOf(-1, what), -1);
            for (int far : Scenes.FAR_OUT) {
                Check.due("hallOf(" + far + ", " + what + ")", full.hallOf(far, what), -1);
            }
        }
        Check.due("hallOf(11, 0) of twelve", full.hallOf(11, 0), 3);
    }

    private static void nothingElseOfAHall() {
        PanoramaHouse x = new PanoramaHouse();
        Scenes.livedIn(x);
        for (int what : new int[] {-1, 6, Integer.MIN_VALUE, Integer.MAX_VALUE}) {
            Check.due("hallOf(0, " + what + ")", x.hallOf(0, what), -1);
        }
    }
}
