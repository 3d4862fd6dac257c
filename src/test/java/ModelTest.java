import java.util.ArrayDeque;
import java.util.ArrayList;
import java.util.List;
import java.util.regex.Matcher;
import java.util.regex.Pattern;

/**
 * Many runs of calls, each against a slow model that follows the document's words and shares no way
 * of working with the class: whole pictures are joined anew, contracts are matched by a pattern.
 */
public final class ModelTest {
    private static final int RUNS = 400;
    private static final int CALLS = 512;
    /** A contract of 600 bytes: 30 times feed(), hall() and fault(). */
    private static final int MOST_CALLS_A_TURN = 32;
    private static final int MOST_TOLD = 20;

    private static int wrong = 0;
    private static int calls = 0;
    private static long seed = 20_261_116L;

    private static int below(int n) {
        seed = seed * 6_364_136_223_846_793_005L + 1_442_695_040_888_963_407L;
        return (int) ((seed >>> 33) % n);
    }

    /** Mostly within the bounds, now and then just or far outside of them. */
    private static int about(int low, int high) {
        switch (below(40)) {
            case 0: return low - 1;
            case 1: return high + 1;
            case 2: return below(2) == 0 ? Integer.MIN_VALUE : Integer.MAX_VALUE;
            case 3: return low;
            case 4: return high;
            default: return low + below(high - low + 1);
        }
    }

    private static void due(int run, String call, int got, int want) {
        calls++;
        if (got != want) {
            wrong++;
            if (wrong <= MOST_TOLD) {
                System.out.println("run " + run + ": " + call + " answered " + got + ", due is " + want);
            }
        }
    }

    public static void main(String[] args) {
        for (int run = 0; run < RUNS; run++) {
            play(run);
        }
        System.out.println(wrong == 0 ? "all answers are as due" : wrong + " answers are not as due");
        if (wrong != 0) {
            System.exit(1);
        }
    }

    private static void play(int run) {
        PanoramaHouse x = new PanoramaHouse();
        Model m = new Model();
        // A run leans to one part of the house, so that each part is gone into deeply.
        int lean = run % 5;
        calls = 0;
        while (calls + MOST_CALLS_A_TURN <= CALLS) {
            int part = below(4) == 0 ? below(4) : Math.min(lean, 3);
            if (lean == 4) {
                part = below(4);
            }
            switch (part) {
                case 0: picture(run, x, m); break;
                case 1: painting(run, x, m); break;
                case 2: contracts(run, x, m); break;
                default: platform(run, x, m); break;
            }
        }
    }

    private static void picture(int run, PanoramaHouse x, Model m) {
        int view = below(3) == 0 ? about(0, 11) : (run + below(2)) % 12;
        int u = about(0, 39);
        int h = about(0, 19);
        int colour = about(0, 7);
        int column = below(2) == 0 ? about(0, 359) : Math.floorMod(30 * (run % 12) + below(60) - 20, 360);
        int row = about(0, 19);
        switch (below(9)) {
            case 0: case 1: case 2:
                due(run, "mark(" + view + ", " + u + ", " + h + ", " + colour + ")",
                    x.mark(view, u, h, colour) ? 1 : 0, m.mark(view, u, h, colour) ? 1 : 0);
                break;
            case 3: case 4:
                int v = about(0, 39);
                int g = about(0, 19);
                due(run, "line(" + view + ", " + u + ", " + h + ", " + v + ", " + g + ", " + colour + ")",
                    x.line(view, u, h, v, g, colour), m.line(view, u, h, v, g, colour));
                break;
            case 5:
                int what = about(0, 1);
                due(run, "stands(" + view + ", " + u + ", " + h + ", " + what + ")",
                    x.stands(view, u, h, what), m.stands(view, u, h, what));
                break;
            case 6:
                due(run, "colour(" + column + ", " + row + ")", x.colour(column, row), m.colour(column, row));
                break;
            case 7:
                due(run, "from(" + column + ", " + row + ")", x.from(column, row), m.from(column, row));
                break;
            default:
                due(run, "seam(" + view + ")", x.seam(view), m.seam(view));
                due(run, "count(4)", x.count(4), m.coloured(0, 359, 0, 19));
                break;
        }
    }

    private static void painting(int run, PanoramaHouse x, Model m) {
        // Few squares, so that their coats come to an end.
        int square = below(8) == 0 ? about(0, 71) : 36 * below(2) + (run + below(3)) % 36;
        int what = about(0, 6);
        switch (below(10)) {
            case 0:
                int skill = about(1, 20);
                due(run, "gang(" + skill + ")", x.gang(skill), m.gang(skill));
                break;
            case 1: case 2: case 3:
                int gang = about(0, 5);
                due(run, "put(" + gang + ", " + square + ")", x.put(gang, square), m.put(gang, square));
                break;
            case 4: case 5:
                due(run, "day()", x.day(), m.day());
                break;
            case 6:
                int first = about(0, 71);
                int n = about(1, 6);
                int k = about(1, 3);
                due(run, "least(" + first + ", " + n + ", " + k + ")", x.least(first, n, k), m.least(first, n, k));
                break;
            case 7:
                due(run, "count(0)", x.count(0), m.today);
                due(run, "count(1)", x.count(1), m.gangs.size());
                due(run, "count(5)", x.count(5), m.finished());
                break;
            default:
                due(run, "square(" + square + ", " + what + ")", x.square(square, what), m.square(square, what));
                break;
        }
    }

    private static void contracts(int run, PanoramaHouse x, Model m) {
        int hall = below(8) == 0 ? about(0, 11) : below(m.halls.size() + 1);
        int what = about(0, 5);
        switch (below(6)) {
            case 0:
                String text = someContract();
                feedAll(run, x, m, text);
                int n = below(6) == 0 ? about(0, m.tape.length()) : Math.min(text.length(), m.tape.length());
                String read = n < 0 || n > m.tape.length() ? "" : m.tape.substring(0, n);
                due(run, "hall(" + n + ") of [" + read + "]", x.hall(n), m.hall(n));
                due(run, "fault() of [" + read + "]", x.fault(), m.fault);
                break;
            case 1: case 2: case 3:
                int people = below(2) == 0 ? below(6) : about(0, 99_999);
                int coins = below(2) == 0 ? below(200) : about(0, 99_999);
                due(run, "week(" + hall + ", " + people + ", " + coins + ")",
                    x.week(hall, people, coins), m.week(hall, people, coins));
                break;
            case 4:
                due(run, "hallOf(" + hall + ", " + what + ")", x.hallOf(hall, what), m.hallOf(hall, what));
                break;
            default:
                due(run, "count(2)", x.count(2), m.halls.size());
                due(run, "count(3)", x.count(3), m.tape.length());
                due(run, "fault()", x.fault(), m.fault);
                break;
        }
    }

    private static void feedAll(int run, PanoramaHouse x, Model m, String text) {
        for (int at = 0; at < text.length(); at += 20) {
            int[] n = new int[5];
            for (int i = 0; i < 20; i++) {
                int b = at + i < text.length() ? text.charAt(at + i) : ' ';
                n[i / 4] |= b << 24 - i % 4 * 8;
            }
            due(run, "feed", x.feed(n[0], n[1], n[2], n[3], n[4]), m.feed(n));
        }
    }

    private static String oneOf(String... words) {
        return words[below(words.length)];
    }

    private static String someNumber() {
        switch (below(6)) {
            case 0: return Integer.toString(below(100_000));
            case 1: return "00" + below(1_000);
            default: return Integer.toString(below(8));
        }
    }

    private static String someContract() {
        StringBuilder text = new StringBuilder();
        int statements = below(10) == 0 ? 11 + below(3) : below(6);
        for (int i = 0; i < statements; i++) {
            String number = below(3) == 0 ? Integer.toString(95 + below(7)) : someNumber();
            text.append(oneOf("weeks", "rent", "part", "part", "part")).append(oneOf(" ", "", "\n")).append(number);
            boolean part = text.lastIndexOf("part") > Math.max(text.lastIndexOf("weeks"), text.lastIndexOf("rent"));
            int tests = part ? below(9) == 0 ? 4 : below(4) : 0;
            for (int t = 0; t < tests; t++) {
                text.append(t == 0 ? " if " : oneOf(" and ", "and ")).append(oneOf("week", "people", "coins"));
                text.append(oneOf("", " ")).append(oneOf("<", ">", "=")).append(oneOf("", "  ")).append(someNumber());
            }
            text.append(oneOf(";", "; ", " ;\n"));
        }
        if (below(3) == 0 && text.length() > 0) {
            int at = below(text.length());
            switch (below(4)) {
                case 0: text.setLength(at); break;
                case 1: text.deleteCharAt(at); break;
                case 2: text.insert(at, oneOf(" if ", " and ", ";", "weeks", "1", "=", " week ", "100")); break;
                default: text.setCharAt(at, (char) below(256)); break;
            }
        }
        return text.length() > 600 ? text.substring(0, 600) : text.toString();
    }

    private static void platform(int run, PanoramaHouse x, Model m) {
        switch (below(8)) {
            case 0:
                int most = below(2) == 0 ? about(1, 200) : 1 + below(20);
                due(run, "room(" + most + ")", x.room(most) ? 1 : 0, m.room(most) ? 1 : 0);
                break;
            case 1: case 2: case 3: case 4:
                int n = run % 2 == 0 ? below(12) : about(0, 500);
                due(run, "minute(" + n + ")", x.minute(n), m.minute(n));
                break;
            default:
                int what = about(0, 5);
                due(run, "crowd(" + what + ")", x.crowd(what), m.crowd(what));
                break;
        }
    }

    private static final class Square {
        int coats;
        int gang = -1;
        int left;
        final int[] doneOn = {-1, -1};
        int last = -1;
    }

    private static final class Gang {
        final int skill;
        int square = -1;

        Gang(int skill) {
            this.skill = skill;
        }
    }

    private static final class Part {
        int share;
        final List<String[]> tests = new ArrayList<>();
    }

    private static final class Hall {
        int weeks = 1;
        int rent;
        int gone;
        int house;
        int hall;
        int people;
        final List<Part> parts = new ArrayList<>();
    }

    private static final class Model {
        final int[][][] marks = new int[12][40][20];
        final int[][][] shown = new int[12][360][20];
        final Square[] squares = new Square[72];
        final List<Gang> gangs = new ArrayList<>();
        int today;
        final StringBuilder tape = new StringBuilder();
        final List<Hall> halls = new ArrayList<>();
        int fault = -1;
        int most = 40;
        final ArrayDeque<Integer> cameUp = new ArrayDeque<>();
        int waiting;
        int left;
        int minutes;
        int mostEver;

        Model() {
            for (int i = 0; i < 72; i++) {
                squares[i] = new Square();
            }
        }

        static boolean in(int n, int low, int high) {
            return n >= low && n <= high;
        }

        boolean mark(int view, int u, int h, int colour) {
            if (!in(view, 0, 11) || !in(u, 0, 39) || !in(h, 0, 19) || !in(colour, 0, 7)) {
                return false;
            }
            marks[view][u][h] = colour;
            join(view);
            return true;
        }

        void join(int view) {
            shown[view] = new int[360][20];
            for (int u = 0; u < 40; u++) {
                for (int h = 0; h < 20; h++) {
                    if (marks[view][u][h] != 0) {
                        shown[view][stands(view, u, h, 0)][stands(view, u, h, 1)] = marks[view][u][h];
                    }
                }
            }
        }

        int line(int view, int u, int h, int v, int g, int colour) {
            if (!in(view, 0, 11) || !in(u, 0, 39) || !in(h, 0, 19) || !in(v, 0, 39) || !in(g, 0, 19) || !in(colour, 0, 7)) {
                return -1;
            }
            int n = Math.max(Math.abs(v - u), Math.abs(g - h));
            for (int i = 0; i <= n; i++) {
                double share = n == 0 ? 0 : i;
                int by = Math.max(n, 1);
                marks[view][(int) Math.floor(u + share * (v - u) / by)][(int) Math.floor(h + share * (g - h) / by)] = colour;
            }
            join(view);
            return n + 1;
        }

        int stands(int view, int u, int h, int what) {
            if (!in(view, 0, 11) || !in(u, 0, 39) || !in(h, 0, 19) || !in(what, 0, 1)) {
                return -1;
            }
            int k = u - 20;
            return what == 0 ? (360 + 30 * view + k - k * k * k / 6000) % 360 : h * 1000 / (1000 + k * k);
        }

        int from(int column, int row) {
            if (!in(column, 0, 359) || !in(row, 0, 19)) {
                return -1;
            }
            int best = -1;
            int nearest = 1000;
            for (int view = 0; view < 12; view++) {
                int way = Math.abs(column - 30 * view);
                way = Math.min(way, 360 - way);
                if (shown[view][column][row] != 0 && way < nearest) {
                    best = view;
                    nearest = way;
                }
            }
            return best;
        }

        int colour(int column, int row) {
            if (!in(column, 0, 359) || !in(row, 0, 19)) {
                return -1;
            }
            int view = from(column, row);
            return view < 0 ? 0 : shown[view][column][row];
        }

        int coloured(int firstColumn, int lastColumn, int firstRow, int lastRow) {
            int places = 0;
            for (int column = firstColumn; column <= lastColumn; column++) {
                for (int row = firstRow; row <= lastRow; row++) {
                    places += colour(column, row) != 0 ? 1 : 0;
                }
            }
            return places;
        }

        int seam(int view) {
            if (!in(view, 0, 11)) {
                return -1;
            }
            int places = 0;
            for (int column = 0; column < 360; column++) {
                for (int row = 0; row < 20; row++) {
                    int a = shown[view][column][row];
                    int b = shown[view == 11 ? 0 : view + 1][column][row];
                    places += a != 0 && b != 0 && a != b ? 1 : 0;
                }
            }
            return places;
        }

        int gang(int skill) {
            if (!in(skill, 1, 20) || gangs.size() == 6) {
                return -1;
            }
            gangs.add(new Gang(skill));
            return gangs.size() - 1;
        }

        int work(int square) {
            int column = square % 36 * 10;
            int row = square < 36 ? 10 : 0;
            return 3 + coloured(column, column + 9, row, row + 9);
        }

        int put(int gang, int square) {
            if (!in(gang, 0, gangs.size() - 1) || !in(square, 0, 71)) {
                return -2;
            }
            Square s = squares[square];
            if (gangs.get(gang).square >= 0) {
                return -3;
            }
            if (s.coats == 2) {
                return -4;
            }
            if (s.gang >= 0) {
                return -5;
            }
            if (s.coats == 1 && today < s.doneOn[0] + 3) {
                return -6;
            }
            if (square < 36 && squares[square + 36].coats <= s.coats) {
                return -7;
            }
            s.left = s.coats == 0 ? work(square) : Math.max(1, work(square) / 2);
            s.gang = gang;
            gangs.get(gang).square = square;
            return s.coats + 1;
        }

        int day() {
            for (int i = 0; i < gangs.size(); i++) {
                Gang g = gangs.get(i);
                if (g.square < 0) {
                    continue;
                }
                Square s = squares[g.square];
                s.left -= g.skill;
                if (s.left <= 0) {
                    s.left = 0;
                    s.doneOn[s.coats++] = today;
                    s.last = i;
                    s.gang = -1;
                    g.square = -1;
                }
            }
            return ++today;
        }

        int square(int square, int what) {
            if (!in(square, 0, 71) || !in(what, 0, 6)) {
                return -1;
            }
            Square s = squares[square];
            return new int[] {work(square), s.coats, s.gang, s.left, s.doneOn[0], s.doneOn[1], s.last}[what];
        }

        int finished() {
            int n = 0;
            for (Square s : squares) {
                n += s.coats == 2 ? 1 : 0;
            }
            return n;
        }

        int least(int first, int n, int k) {
            if (!in(first, 0, 71) || !in(n, 1, 6) || first + n > 72 || !in(k, 1, 3) || k > gangs.size()) {
                return -1;
            }
            int[] works = new int[n];
            int ways = 1;
            for (int i = 0; i < n; i++) {
                works[i] = work(first + i);
                ways *= k;
            }
            int best = Integer.MAX_VALUE;
            for (int way = 0; way < ways; way++) {
                int[] given = new int[k];
                int rest = way;
                for (int i = 0; i < n; i++) {
                    given[rest % k] += works[i];
                    rest /= k;
                }
                int days = 0;
                for (int i = 0; i < k; i++) {
                    days = Math.max(days, (int) Math.ceil((double) given[i] / gangs.get(i).skill));
                }
                best = Math.min(best, days);
            }
            return best;
        }

        int feed(int[] numbers) {
            if (tape.length() + 20 > 600) {
                return -1;
            }
            for (int number : numbers) {
                tape.append((char) (number >> 24 & 255)).append((char) (number >> 16 & 255));
                tape.append((char) (number >> 8 & 255)).append((char) (number & 255));
            }
            return tape.length();
        }

        private static final Pattern TOKEN = Pattern.compile("[ \n]*([a-z]+|[0-9]+|[<>=;]|[^ \n])", Pattern.DOTALL);
        private static final String TEST = "[kec]s[nN]";
        /** '#' stands for no token at all: an "and" may come behind a third test, but nothing goes on from there. */
        private static final Pattern CONTRACT = Pattern.compile(
            "(?:[wr][nN];|pn;|pni" + TEST + "(?:a" + TEST + "){0,2}(?:a#)?;){0,12}");

        /** One letter for each token. */
        private static char letter(String token) {
            if (token.matches("[0-9]{1,5}")) {
                return Integer.parseInt(token) <= 100 ? 'n' : 'N';
            }
            switch (token) {
                case "weeks": return 'w';
                case "rent": return 'r';
                case "part": return 'p';
                case "if": return 'i';
                case "and": return 'a';
                case "week": return 'k';
                case "people": return 'e';
                case "coins": return 'c';
                case "<": case ">": case "=": return 's';
                case ";": return ';';
                default: return '?';
            }
        }

        int hall(int n) {
            if (!in(n, 0, tape.length())) {
                return -2;
            }
            if (halls.size() == 12) {
                return -3;
            }
            String text = tape.substring(0, n);
            tape.setLength(0);
            List<String> tokens = new ArrayList<>();
            StringBuilder letters = new StringBuilder();
            Matcher next = TOKEN.matcher(text);
            fault = -1;
            while (next.find()) {
                tokens.add(next.group(1));
                letters.append(letter(next.group(1)));
                Matcher match = CONTRACT.matcher(letters);
                if (!match.matches() && !match.hitEnd()) {
                    fault = next.start(1);
                    return -1;
                }
            }
            if (!CONTRACT.matcher(letters).matches()) {
                fault = n;
                return -1;
            }
            halls.add(build(tokens));
            return halls.size() - 1;
        }

        private static Hall build(List<String> tokens) {
            Hall hall = new Hall();
            for (int i = 0; i < tokens.size(); i++) {
                int number = i + 1 < tokens.size() && tokens.get(i + 1).matches("[0-9]+") ? Integer.parseInt(tokens.get(i + 1)) : 0;
                switch (tokens.get(i)) {
                    case "weeks": hall.weeks = number; break;
                    case "rent": hall.rent = number; break;
                    case "part":
                        hall.parts.add(new Part());
                        hall.parts.get(hall.parts.size() - 1).share = number;
                        break;
                    case "if": case "and":
                        hall.parts.get(hall.parts.size() - 1).tests.add(
                            new String[] {tokens.get(i + 1), tokens.get(i + 2), tokens.get(i + 3)});
                        break;
                    default: break;
                }
            }
            return hall;
        }

        int week(int hall, int people, int coins) {
            if (!in(hall, 0, halls.size() - 1) || !in(people, 0, 99_999) || !in(coins, 0, 99_999)) {
                return -1;
            }
            Hall h = halls.get(hall);
            if (h.gone >= h.weeks) {
                return -1;
            }
            h.gone++;
            int share = 50;
            for (int i = h.parts.size() - 1; i >= 0; i--) {
                boolean all = true;
                for (String[] test : h.parts.get(i).tests) {
                    int value = test[0].equals("week") ? h.gone : test[0].equals("people") ? people : coins;
                    int sign = Integer.compare(value, Integer.parseInt(test[2]));
                    all &= sign == (test[1].equals("<") ? -1 : test[1].equals(">") ? 1 : 0);
                }
                share = all ? h.parts.get(i).share : share;
            }
            int rent = Math.min(h.rent, coins);
            int house = (coins - rent) * share / 100;
            h.house += house;
            h.hall += rent + (coins - rent - house);
            h.people += people;
            return house;
        }

        int hallOf(int hall, int what) {
            if (!in(hall, 0, halls.size() - 1) || !in(what, 0, 5)) {
                return -1;
            }
            Hall h = halls.get(hall);
            return new int[] {h.weeks, h.gone, h.house, h.hall, h.people, h.rent}[what];
        }

        boolean room(int m) {
            most = in(m, 1, 200) ? m : most;
            return in(m, 1, 200);
        }

        int minute(int n) {
            if (!in(n, 0, 500) || waiting + n > 2000) {
                return -1;
            }
            minutes++;
            while (!cameUp.isEmpty() && minutes - cameUp.peek() >= 12) {
                cameUp.remove();
                left++;
            }
            waiting += n;
            int up = 0;
            while (waiting > 0 && up < 8 && cameUp.size() < most) {
                cameUp.add(minutes);
                waiting--;
                up++;
            }
            mostEver = Math.max(mostEver, cameUp.size());
            return up;
        }

        int crowd(int what) {
            return in(what, 0, 5) ? new int[] {cameUp.size(), waiting, left, minutes, mostEver, most}[what] : -1;
        }
    }
}
