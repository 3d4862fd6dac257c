/** Runs of calls that several tests begin or end with. */
final class Scenes {
    private Scenes() {
    }

    /** Numbers that are in no range of the document. */
    static final int[] FAR_OUT = {Integer.MIN_VALUE, Integer.MAX_VALUE};

    static void empty(PanoramaHouse x) {
    }

    static void days(PanoramaHouse x, int n) {
        for (int i = 0; i < n; i++) {
            x.day();
        }
    }

    static void minutes(PanoramaHouse x, int n) {
        for (int i = 0; i < n; i++) {
            x.minute(0);
        }
    }

    /** Feeds a text, filled up with blanks to twenty bytes a call. */
    static void feedText(PanoramaHouse x, String text) {
        for (int at = 0; at < text.length(); at += 20) {
            int[] n = new int[5];
            for (int i = 0; i < 20; i++) {
                int here = at + i < text.length() ? text.charAt(at + i) : ' ';
                n[i / 4] = n[i / 4] << 8 | here;
            }
            x.feed(n[0], n[1], n[2], n[3], n[4]);
        }
    }

    /** Feeds a text to an empty tape and reads all of it that isn't filling. */
    static int contract(PanoramaHouse x, String text) {
        feedText(x, text);
        return x.hall(text.length());
    }

    /** Something of everything: no part of the house is as it was at first. */
    static void livedIn(PanoramaHouse x) {
        x.line(0, 0, 0, 39, 19, 1);
        x.line(0, 39, 0, 0, 19, 2);
        x.line(1, 0, 4, 39, 4, 3);
        x.line(11, 39, 0, 39, 19, 4);
        x.line(11, 38, 0, 38, 19, 5);
        x.mark(5, 20, 10, 6);
        x.gang(20);
        x.gang(1);
        x.gang(2);
        x.put(0, 36);
        x.put(1, 40);
        x.day();
        x.put(0, 37);
        x.put(2, 0);
        x.day();
        contract(x, "weeks 5; rent 10; part 30 if people > 5 and week < 4; part 20 if coins = 99;");
        contract(x, "rent 3;");
        x.week(0, 6, 1000);
        x.week(1, 1, 1);
        contract(x, "weeks x;");
        feedText(x, "weeks 2; rent 77; ");
        x.room(30);
        x.minute(50);
        x.minute(3);
        x.room(20);
    }

    /** Brings to light what no question shows: who is free, what is on the tape, who will leave when. */
    static void goOn(PanoramaHouse x) {
        for (int gang = 0; gang < 6; gang++) {
            x.put(gang, 60 + gang);
        }
        days(x, 3);
        x.put(0, 36);
        x.put(0, 0);
        x.day();
        x.hall(x.count(3));
        for (int hall = 0; hall < 12; hall++) {
            x.week(hall, 7, 1001);
        }
        for (int minute = 0; minute < 13; minute++) {
            x.minute(3);
        }
        for (int view = 0; view < 12; view++) {
            x.line(view, 39, 0, 39, 19, 0);
            x.line(view, 1, 0, 1, 19, 0);
        }
    }
}
