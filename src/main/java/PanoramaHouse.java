/**
 * A panorama house: its round picture, the painting of it by gangs, the halls that show it by
 * contract, and the crowd on its platform. What it promises stands in the project's DOC.md.
 */
public final class PanoramaHouse {
    public static final int NONE = -1;

    private static final int NO_COLOUR = 0;
    private static final int MOST_COLOUR = 7;
    private static final int VIEWS = 12;
    private static final int VIEW_WIDTH = 40;
    private static final int VIEW_MIDDLE = 20;
    private static final int ROWS = 20;
    private static final int COLUMNS = 360;
    private static final int COLUMNS_A_VIEW = 30;
    /** No mark stands farther from its view's middle: 19 columns before it, 18 behind it. */
    private static final int REACH_BEFORE = 19;
    private static final int REACH_BEHIND = 18;

    private static final int SQUARES = 72;
    private static final int FIRST_GROUND = 36;
    private static final int SQUARE_SIDE = 10;
    private static final int BARE_WORK = 3;
    private static final int COATS = 2;
    private static final int DRYING_DAYS = 3;
    private static final int LAST_DAY = 1_000;
    private static final int MOST_GANGS = 6;
    private static final int MOST_SKILL = 20;
    private static final int MOST_SQUARES_SHARED = 6;
    private static final int MOST_GANGS_SHARING = 3;
    private static final int NO_SUCH_GANG_OR_SQUARE = -2;
    private static final int GANG_NOT_FREE = -3;
    private static final int BOTH_COATS_DONE = -4;
    private static final int SQUARE_TAKEN = -5;
    private static final int NOT_DRY = -6;
    private static final int GROUND_NOT_DONE = -7;

    private static final int MOST_TAPE = 600;
    private static final int BYTES_A_FEED = 20;
    private static final int MOST_HALLS = 12;
    private static final int NO_SUCH_LENGTH = -2;
    private static final int HALLS_FULL = -3;
    private static final int MOST_STATEMENTS = 12;
    private static final int MOST_TESTS = 3;
    private static final int MOST_DIGITS = 5;
    private static final int MOST_NUMBER = 99_999;
    private static final int WHOLE_SHARE = 100;
    private static final int USUAL_SHARE = 50;
    private static final int OF_WEEK = 0;
    private static final int OF_PEOPLE = 1;
    private static final int OF_COINS = 2;

    private static final int USUAL_ROOM = 40;
    private static final int MOST_ROOM = 200;
    private static final int STAY_MINUTES = 12;
    private static final int STAIR_A_MINUTE = 8;
    private static final int MOST_COMING = 500;
    private static final int MOST_WAITING = 2_000;

    private final Round round;
    private final Paintwork paintwork;
    private final ContractReader reader;
    private final Hall[] halls;
    private final Platform platform;
    private Hall draft;
    private int hallsMade;
    private int faultPlace;

    public PanoramaHouse() {
        round = new Round();
        paintwork = new Paintwork(round);
        reader = new ContractReader();
        halls = new Hall[MOST_HALLS];
        platform = new Platform();
        draft = new Hall();
        hallsMade = 0;
        faultPlace = NONE;
    }

    public boolean mark(int view, int u, int h, int colour) {
        return round.setMark(view, u, h, colour);
    }

    public int line(int view, int u, int h, int v, int g, int colour) {
        return round.drawLine(view, u, h, v, g, colour);
    }

    public int stands(int view, int u, int h, int what) {
        if (!Round.isMark(view, u, h)) {
            return NONE;
        }
        switch (what) {
            case 0: return Round.columnOf(view, u);
            case 1: return Round.rowOf(u, h);
            default: return NONE;
        }
    }

    public int colour(int column, int row) {
        if (!Round.isPlace(column, row)) {
            return NONE;
        }
        return round.colourAt(column, row);
    }

    public int from(int column, int row) {
        if (!Round.isPlace(column, row)) {
            return NONE;
        }
        return round.viewAt(column, row);
    }

    public int seam(int view) {
        return round.quarrelsBehind(view);
    }

    public int gang(int skill) {
        return paintwork.hire(skill);
    }

    public int put(int gang, int square) {
        return paintwork.beginCoat(gang, square);
    }

    public int day() {
        return paintwork.passDay();
    }

    public int square(int square, int what) {
        return paintwork.tellSquare(square, what);
    }

    public int least(int first, int n, int k) {
        return paintwork.leastDays(first, n, k);
    }

    public int feed(int a, int b, int c, int d, int e) {
        return reader.takeBytes(a, b, c, d, e);
    }

    public int hall(int n) {
        if (n < 0 || n > reader.bytes()) {
            return NO_SUCH_LENGTH;
        }
        if (hallsMade < 0 || hallsMade >= MOST_HALLS) {
            return HALLS_FULL;
        }
        faultPlace = reader.readContract(n, draft);
        if (faultPlace != NONE) {
            return NONE;
        }
        halls[hallsMade] = draft;
        draft = new Hall();
        return hallsMade++;
    }

    public int fault() {
        return faultPlace;
    }

    public int week(int hall, int people, int coins) {
        Hall named = hallNumbered(hall);
        if (named == null || !isTold(people) || !isTold(coins)) {
            return NONE;
        }
        return named.passWeek(people, coins);
    }

    public int hallOf(int hall, int what) {
        Hall named = hallNumbered(hall);
        return named == null ? NONE : named.tell(what);
    }

    public boolean room(int m) {
        return platform.setRoom(m);
    }

    public int minute(int n) {
        return platform.passMinute(n);
    }

    public int crowd(int what) {
        return platform.tell(what);
    }

    public int count(int what) {
        switch (what) {
            case 0: return paintwork.today();
            case 1: return paintwork.gangs();
            case 2: return hallsMade;
            case 3: return reader.bytes();
            case 4: return round.colouredPlaces();
            case 5: return paintwork.finishedSquares();
            default: return NONE;
        }
    }

    /** Null where there is no such hall. */
    private Hall hallNumbered(int number) {
        return number >= 0 && number < MOST_HALLS ? halls[number] : null;
    }

    private static boolean isTold(int number) {
        return number >= 0 && number <= MOST_NUMBER;
    }

    private static boolean isSquare(int square) {
        return square >= 0 && square < SQUARES;
    }

    /** The marks of the twelve views, and the round picture that they join to. */
    private static final class Round {
        private final byte[] marks = new byte[VIEWS * VIEW_WIDTH * ROWS];
        /** Kept up with every mark, so that no call has to walk the whole round. */
        private final int[] colouredOfSquare = new int[SQUARES];

        static boolean isMark(int view, int u, int h) {
            return view >= 0 && view < VIEWS && u >= 0 && u < VIEW_WIDTH && h >= 0 && h < ROWS;
        }

        static boolean isPlace(int column, int row) {
            return column >= 0 && column < COLUMNS && row >= 0 && row < ROWS;
        }

        static boolean isColour(int colour) {
            return colour >= NO_COLOUR && colour <= MOST_COLOUR;
        }

        static int columnOf(int view, int u) {
            return Math.floorMod(COLUMNS_A_VIEW * view + offsetOf(u), COLUMNS);
        }

        static int rowOf(int u, int h) {
            return h * 1_000 / stretchOf(u);
        }

        /** How many columns behind its view's middle a mark stands. */
        private static int offsetOf(int u) {
            int k = u - VIEW_MIDDLE;
            return k - k * k * k / 6_000;
        }

        /** From 1,000 to 1,400 for every u of a mark, so that it may divide. */
        private static int stretchOf(int u) {
            int k = u - VIEW_MIDDLE;
            return 1_000 + k * k;
        }

        private static int squareOf(int column, int row) {
            return column / SQUARE_SIDE + (row < SQUARE_SIDE ? FIRST_GROUND : 0);
        }

        private static int placeInMarks(int view, int u, int h) {
            return (view * VIEW_WIDTH + u) * ROWS + h;
        }

        boolean setMark(int view, int u, int h, int colour) {
            if (!isMark(view, u, h) || !isColour(colour)) {
                return false;
            }
            int column = columnOf(view, u);
            int row = rowOf(u, h);
            int before = viewAt(column, row) == NONE ? 0 : 1;
            marks[placeInMarks(view, u, h)] = (byte) colour;
            int after = viewAt(column, row) == NONE ? 0 : 1;
            int square = squareOf(column, row);
            if (isSquare(square)) {
                colouredOfSquare[square] += after - before;
            }
            return true;
        }

        int drawLine(int view, int u, int h, int v, int g, int colour) {
            if (!isMark(view, u, h) || !isMark(view, v, g) || !isColour(colour)) {
                return NONE;
            }
            int n = Math.max(Math.abs(v - u), Math.abs(g - h));
            for (int i = 0; i <= n; i++) {
                setMark(view, u + partOfWay(i, v - u, n), h + partOfWay(i, g - h, n), colour);
            }
            return n + 1;
        }

        private static int partOfWay(int i, int way, int n) {
            return n < 1 ? 0 : Math.floorDiv(i * way, n);
        }

        int colourAt(int column, int row) {
            int view = viewAt(column, row);
            return view == NONE ? NO_COLOUR : colourShown(view, column, row);
        }

        /** The view that a place's colour is from; NONE: it has no colour. */
        int viewAt(int column, int row) {
            // No view reaches as far as the next one's middle, so only the two beside a place count.
            int left = column / COLUMNS_A_VIEW;
            int right = (left + 1) % VIEWS;
            int toLeft = column % COLUMNS_A_VIEW;
            int toRight = COLUMNS_A_VIEW - toLeft;
            boolean leftFirst = toLeft < toRight || toLeft == toRight && left < right;
            int nearer = leftFirst ? left : right;
            int other = leftFirst ? right : left;
            if (colourShown(nearer, column, row) != NO_COLOUR) {
                return nearer;
            }
            return colourShown(other, column, row) != NO_COLOUR ? other : NONE;
        }

        int quarrelsBehind(int view) {
            if (view < 0 || view >= VIEWS) {
                return NONE;
            }
            int next = (view + 1) % VIEWS;
            int quarrels = 0;
            for (int offset = COLUMNS_A_VIEW - REACH_BEFORE; offset <= REACH_BEHIND; offset++) {
                int column = (COLUMNS_A_VIEW * view + offset) % COLUMNS;
                for (int row = 0; row < ROWS; row++) {
                    int mine = colourShown(view, column, row);
                    int others = mine == NO_COLOUR ? NO_COLOUR : colourShown(next, column, row);
                    if (others != NO_COLOUR && others != mine) {
                        quarrels++;
                    }
                }
            }
            return quarrels;
        }

        /** The colour that one view alone has at a place. */
        private int colourShown(int view, int column, int row) {
            int turned = column - COLUMNS_A_VIEW * view + COLUMNS / 2;
            int offset = Math.floorMod(turned, COLUMNS) - COLUMNS / 2;
            if (offset < -REACH_BEFORE || offset > REACH_BEHIND) {
                return NO_COLOUR;
            }
            // Within this reach a mark's offset differs from its u less the middle by 1 at most.
            int straight = offset + VIEW_MIDDLE;
            for (int u = straight + 1; u >= straight - 1; u--) {
                int colour = offsetOf(u) == offset ? colourInStrip(view, u, row) : NO_COLOUR;
                if (colour != NO_COLOUR) {
                    return colour;
                }
            }
            return NO_COLOUR;
        }

        /** Of the marks of one u that stand in a row, the highest one's colour that isn't 0. */
        private int colourInStrip(int view, int u, int row) {
            int stretch = stretchOf(u);
            int highest = Math.min(((row + 1) * stretch - 1) / 1_000, ROWS - 1);
            for (int h = highest; h >= 0 && h * 1_000 >= row * stretch; h--) {
                if (isMark(view, u, h) && marks[placeInMarks(view, u, h)] != NO_COLOUR) {
                    return marks[placeInMarks(view, u, h)];
                }
            }
            return NO_COLOUR;
        }

        int colouredIn(int square) {
            return isSquare(square) ? colouredOfSquare[square] : 0;
        }

        int colouredPlaces() {
            int places = 0;
            for (int square = 0; square < SQUARES; square++) {
                places += colouredOfSquare[square];
            }
            return places;
        }
    }

    /** The squares' coats and the gangs that paint them, day by day. */
    private static final class Paintwork {
        private final Round round;
        private final int[] skillOf = new int[MOST_GANGS];
        private final int[] squareOfGang = new int[MOST_GANGS];
        private final int[] coatsDone = new int[SQUARES];
        private final int[] gangOn = new int[SQUARES];
        private final int[] workLeft = new int[SQUARES];
        private final int[] firstDoneOn = new int[SQUARES];
        private final int[] secondDoneOn = new int[SQUARES];
        private final int[] lastGang = new int[SQUARES];
        private final int[] workGiven = new int[MOST_GANGS_SHARING];
        private int gangsHired;
        private int daysGone;

        Paintwork(Round round) {
            this.round = round;
            for (int gang = 0; gang < MOST_GANGS; gang++) {
                squareOfGang[gang] = NONE;
            }
            for (int square = 0; square < SQUARES; square++) {
                gangOn[square] = NONE;
                firstDoneOn[square] = NONE;
                secondDoneOn[square] = NONE;
                lastGang[square] = NONE;
            }
        }

        int today() {
            return daysGone;
        }

        int gangs() {
            return gangsHired;
        }

        int finishedSquares() {
            int finished = 0;
            for (int square = 0; square < SQUARES; square++) {
                finished += coatsDone[square] == COATS ? 1 : 0;
            }
            return finished;
        }

        int hire(int skill) {
            if (skill < 1 || skill > MOST_SKILL || gangsHired < 0 || gangsHired >= MOST_GANGS) {
                return NONE;
            }
            skillOf[gangsHired] = skill;
            return gangsHired++;
        }

        private boolean isGang(int gang) {
            return gang >= 0 && gang < gangsHired && gang < MOST_GANGS;
        }

        private int firstCoatWork(int square) {
            return BARE_WORK + round.colouredIn(square);
        }

        int beginCoat(int gang, int square) {
            if (!isGang(gang) || !isSquare(square)) {
                return NO_SUCH_GANG_OR_SQUARE;
            }
            if (squareOfGang[gang] != NONE) {
                return GANG_NOT_FREE;
            }
            int coat = coatsDone[square] + 1;
            if (coat > COATS) {
                return BOTH_COATS_DONE;
            }
            if (gangOn[square] != NONE) {
                return SQUARE_TAKEN;
            }
            if (coat == COATS && daysGone - firstDoneOn[square] < DRYING_DAYS) {
                return NOT_DRY;
            }
            if (square < FIRST_GROUND && coatsDone[square + FIRST_GROUND] < coat) {
                return GROUND_NOT_DONE;
            }
            int work = firstCoatWork(square);
            workLeft[square] = coat == 1 ? work : Math.max(work / 2, 1);
            gangOn[square] = gang;
            squareOfGang[gang] = square;
            return coat;
        }

        int passDay() {
            if (daysGone >= LAST_DAY) {
                return NONE;
            }
            for (int gang = 0; gang < MOST_GANGS; gang++) {
                workADay(gang, squareOfGang[gang]);
            }
            daysGone++;
            return daysGone;
        }

        private void workADay(int gang, int square) {
            if (!isGang(gang) || !isSquare(square)) {
                return;
            }
            workLeft[square] = Math.max(workLeft[square] - skillOf[gang], 0);
            if (workLeft[square] == 0) {
                endCoat(gang, square);
            }
        }

        private void endCoat(int gang, int square) {
            if (!isGang(gang) || !isSquare(square)) {
                return;
            }
            coatsDone[square]++;
            if (coatsDone[square] == 1) {
                firstDoneOn[square] = daysGone;
            } else {
                secondDoneOn[square] = daysGone;
            }
            lastGang[square] = gang;
            gangOn[square] = NONE;
            squareOfGang[gang] = NONE;
        }

        int tellSquare(int square, int what) {
            if (!isSquare(square)) {
                return NONE;
            }
            switch (what) {
                case 0: return firstCoatWork(square);
                case 1: return coatsDone[square];
                case 2: return gangOn[square];
                case 3: return workLeft[square];
                case 4: return firstDoneOn[square];
                case 5: return secondDoneOn[square];
                case 6: return lastGang[square];
                default: return NONE;
            }
        }

        int leastDays(int first, int n, int k) {
            if (n < 1 || n > MOST_SQUARES_SHARED || first < 0 || first > SQUARES - n) {
                return NONE;
            }
            if (k < 1 || k > MOST_GANGS_SHARING || k > gangsHired) {
                return NONE;
            }
            for (int gang = 0; gang < MOST_GANGS_SHARING; gang++) {
                workGiven[gang] = 0;
            }
            return leastBelow(Integer.MAX_VALUE, first, first + n, k);
        }

        /**
         * The least days if the squares from square to end are still to be given, or the bound if
         * no way is below it. It calls itself once a square, so at most 6 deep.
         */
        private int leastBelow(int bound, int square, int end, int k) {
            if (square >= end) {
                return Math.min(bound, mostDays(k));
            }
            int work = firstCoatWork(square);
            int best = bound;
            for (int gang = 0; gang < k && gang < MOST_GANGS_SHARING; gang++) {
                workGiven[gang] += work;
                // What is given only grows, so a gang that is already as slow can't be bettered.
                if (daysOf(gang) < best) {
                    best = leastBelow(best, square + 1, end, k);
                }
                workGiven[gang] -= work;
            }
            return best;
        }

        private int mostDays(int k) {
            int most = 0;
            for (int gang = 0; gang < k; gang++) {
                most = Math.max(most, daysOf(gang));
            }
            return most;
        }

        private int daysOf(int gang) {
            if (gang < 0 || gang >= MOST_GANGS_SHARING || skillOf[gang] < 1) {
                return 0;
            }
            return (workGiven[gang] + skillOf[gang] - 1) / skillOf[gang];
        }
    }

    /** What a contract says of a hall, and what the hall's weeks have brought. */
    private static final class Hall {
        private final int[] shareOfPart = new int[MOST_STATEMENTS];
        private final int[] testsOfPart = new int[MOST_STATEMENTS];
        private final int[] subjectOfTest = new int[MOST_STATEMENTS * MOST_TESTS];
        private final int[] signOfTest = new int[MOST_STATEMENTS * MOST_TESTS];
        private final int[] numberOfTest = new int[MOST_STATEMENTS * MOST_TESTS];
        private int parts;
        private int weeks;
        private int rent;
        private int weeksGone;
        private int toHouse;
        private int toHall;
        private int visitors;

        Hall() {
            weeks = 1;
        }

        /** Back to an empty contract: a draft whose text had a fault is used again. */
        void clearContract() {
            parts = 0;
            weeks = 1;
            rent = 0;
        }

        void setWeeks(int number) {
            weeks = number;
        }

        void setRent(int number) {
            rent = number;
        }

        void addPart(int share) {
            if (parts >= 0 && parts < MOST_STATEMENTS) {
                shareOfPart[parts] = share;
                testsOfPart[parts] = 0;
                parts++;
            }
        }

        /** Adds a test to the latest part. */
        void addTest(int subject, int sign, int number) {
            int part = parts - 1;
            if (part < 0 || part >= MOST_STATEMENTS) {
                return;
            }
            int tests = testsOfPart[part];
            if (tests < 0 || tests >= MOST_TESTS) {
                return;
            }
            subjectOfTest[part * MOST_TESTS + tests] = subject;
            signOfTest[part * MOST_TESTS + tests] = sign;
            numberOfTest[part * MOST_TESTS + tests] = number;
            testsOfPart[part]++;
        }

        int passWeek(int people, int coins) {
            if (weeksGone >= weeks) {
                return NONE;
            }
            weeksGone++;
            int rest = coins - Math.min(rent, coins);
            int houseGets = rest * shareFor(people, coins) / WHOLE_SHARE;
            toHouse += houseGets;
            toHall += coins - houseGets;
            visitors += people;
            return houseGets;
        }

        private int shareFor(int people, int coins) {
            for (int part = 0; part < parts && part < MOST_STATEMENTS; part++) {
                if (allHold(part, people, coins)) {
                    return shareOfPart[part];
                }
            }
            return USUAL_SHARE;
        }

        private boolean allHold(int part, int people, int coins) {
            if (part < 0 || part >= MOST_STATEMENTS) {
                return false;
            }
            for (int test = 0; test < testsOfPart[part] && test < MOST_TESTS; test++) {
                if (!holds(part * MOST_TESTS + test, people, coins)) {
                    return false;
                }
            }
            return true;
        }

        private boolean holds(int test, int people, int coins) {
            if (test < 0 || test >= MOST_STATEMENTS * MOST_TESTS) {
                return false;
            }
            int value = valueOf(subjectOfTest[test], people, coins);
            switch (signOfTest[test]) {
                case '<': return value < numberOfTest[test];
                case '>': return value > numberOfTest[test];
                default: return value == numberOfTest[test];
            }
        }

        private int valueOf(int subject, int people, int coins) {
            switch (subject) {
                case OF_WEEK: return weeksGone;
                case OF_PEOPLE: return people;
                default: return coins;
            }
        }

        int tell(int what) {
            switch (what) {
                case 0: return weeks;
                case 1: return weeksGone;
                case 2: return toHouse;
                case 3: return toHall;
                case 4: return visitors;
                case 5: return rent;
                default: return NONE;
            }
        }
    }

    /** The tape, and the reading of a contract from it, token by token. */
    private static final class ContractReader {
        private static final int END = 0;
        private static final int WORD = 1;
        private static final int DIGITS = 2;
        private static final int SIGN = 3;
        private static final int BLANK = 4;
        private static final int STRANGE = 5;

        private final int[] tape = new int[MOST_TAPE];
        private int bytesOnTape;
        private int length;
        /** The token that is looked at: its kind, its first byte, and the first byte behind it. */
        private int kind;
        private int start;
        private int end;

        int bytes() {
            return bytesOnTape;
        }

        int takeBytes(int a, int b, int c, int d, int e) {
            if (bytesOnTape > MOST_TAPE - BYTES_A_FEED) {
                return NONE;
            }
            takeFour(a);
            takeFour(b);
            takeFour(c);
            takeFour(d);
            takeFour(e);
            return bytesOnTape;
        }

        private void takeFour(int number) {
            for (int shift = 24; shift >= 0; shift -= 8) {
                if (bytesOnTape >= 0 && bytesOnTape < MOST_TAPE) {
                    tape[bytesOnTape] = (number >>> shift) & 255;
                    bytesOnTape++;
                }
            }
        }

        /** Reads the first n bytes and empties the tape: the fault's place, or NONE. */
        int readContract(int n, Hall draft) {
            draft.clearContract();
            length = Math.min(n, bytesOnTape);
            bytesOnTape = 0;
            end = 0;
            advance();
            for (int statement = 0; statement < MOST_STATEMENTS && kind != END; statement++) {
                if (!readStatement(draft)) {
                    return start;
                }
            }
            return kind == END ? NONE : start;
        }

        /** False: the token that is looked at is the fault (as in all that read). */
        private boolean readStatement(Hall draft) {
            boolean ofWeeks = isWord("weeks");
            boolean ofPart = isWord("part");
            if (!ofWeeks && !ofPart && !isWord("rent")) {
                return false;
            }
            advance();
            int number = numberHere(ofPart ? WHOLE_SHARE : MOST_NUMBER);
            if (number == NONE) {
                return false;
            }
            advance();
            if (ofWeeks) {
                draft.setWeeks(number);
            } else if (!ofPart) {
                draft.setRent(number);
            } else {
                draft.addPart(number);
                if (!readTests(draft)) {
                    return false;
                }
            }
            if (signHere() != ';') {
                return false;
            }
            advance();
            return true;
        }

        private boolean readTests(Hall draft) {
            boolean more = isWord("if");
            for (int tests = 0; more && tests < MOST_TESTS; tests++) {
                advance();
                if (!readTest(draft)) {
                    return false;
                }
                more = isWord("and");
            }
            if (more) {
                // A fourth test is a fault where it begins itself, behind its "and".
                advance();
            }
            return !more;
        }

        private boolean readTest(Hall draft) {
            int subject = subjectHere();
            if (subject == NONE) {
                return false;
            }
            advance();
            int sign = signHere();
            if (sign == NONE || sign == ';') {
                return false;
            }
            advance();
            int number = numberHere(MOST_NUMBER);
            if (number == NONE) {
                return false;
            }
            advance();
            draft.addTest(subject, sign, number);
            return true;
        }

        private int subjectHere() {
            if (isWord("week")) {
                return OF_WEEK;
            }
            if (isWord("people")) {
                return OF_PEOPLE;
            }
            return isWord("coins") ? OF_COINS : NONE;
        }

        private int signHere() {
            return kind == SIGN ? byteAt(start) : NONE;
        }

        /** NONE: no number, or one above the most. */
        private int numberHere(int most) {
            if (kind != DIGITS || end - start > MOST_DIGITS) {
                return NONE;
            }
            int number = 0;
            for (int place = start; place < end; place++) {
                number = number * 10 + byteAt(place) - '0';
            }
            return number > most ? NONE : number;
        }

        private boolean isWord(String word) {
            if (kind != WORD || end - start != word.length()) {
                return false;
            }
            for (int i = 0; i < word.length(); i++) {
                if (byteAt(start + i) != word.charAt(i)) {
                    return false;
                }
            }
            return true;
        }

        /** Looks at the next token; behind the last one at the text's end. */
        private void advance() {
            start = end;
            while (start < length && kindOf(byteAt(start)) == BLANK) {
                start++;
            }
            kind = kindOf(byteAt(start));
            end = start < length ? start + 1 : start;
            boolean grows = kind == WORD || kind == DIGITS;
            while (grows && end < length && kindOf(byteAt(end)) == kind) {
                end++;
            }
        }

        private static int kindOf(int here) {
            if (here >= 'a' && here <= 'z') {
                return WORD;
            }
            if (here >= '0' && here <= '9') {
                return DIGITS;
            }
            switch (here) {
                case NONE: return END;
                case '<': case '>': case '=': case ';': return SIGN;
                case 32: case 10: return BLANK;
                default: return STRANGE;
            }
        }

        /** NONE outside of the text. */
        private int byteAt(int place) {
            return place >= 0 && place < length && place < MOST_TAPE ? tape[place] : NONE;
        }
    }

    /** The stair and the platform, minute by minute. */
    private static final class Platform {
        /** Who went up in each of the latest minutes: a ring by the minute's number. */
        private final int[] wentUp = new int[STAY_MINUTES];
        private int most;
        private int there;
        private int waiting;
        private int left;
        private int minutes;
        private int mostEver;

        Platform() {
            most = USUAL_ROOM;
        }

        boolean setRoom(int m) {
            if (m < 1 || m > MOST_ROOM) {
                return false;
            }
            most = m;
            return true;
        }

        int passMinute(int coming) {
            if (coming < 0 || coming > MOST_COMING || waiting + coming > MOST_WAITING) {
                return NONE;
            }
            int now = Math.floorMod(minutes, STAY_MINUTES);
            there -= wentUp[now];
            left += wentUp[now];
            waiting += coming;
            // After room() made it smaller, there may be more on the platform than it holds.
            int free = Math.max(most - there, 0);
            int up = Math.min(Math.min(free, waiting), STAIR_A_MINUTE);
            wentUp[now] = up;
            waiting -= up;
            there += up;
            minutes++;
            mostEver = Math.max(mostEver, there);
            return up;
        }

        int tell(int what) {
            switch (what) {
                case 0: return there;
                case 1: return waiting;
                case 2: return left;
                case 3: return minutes;
                case 4: return mostEver;
                case 5: return most;
                default: return NONE;
            }
        }
    }
}
