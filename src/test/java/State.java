import java.util.ArrayList;
import java.util.List;

/** All that a house tells of itself. */
final class State {
    /** The answers behind an object's 512th call are free, so a scene is played anew for so many questions. */
    private static final int QUESTIONS_AN_OBJECT = 200;
    private static final int MOST_DIFFERENCES = 4;
    private static final List<Question> QUESTIONS = questions();

    private State() {
    }

    private static final class Question {
        final String name;
        final Check.Call call;

        Question(String name, Check.Call call) {
            this.name = name;
            this.call = call;
        }
    }

    private static List<Question> questions() {
        List<Question> all = new ArrayList<>();
        ofPicture(all);
        for (int i = 0; i < 72; i++) {
            for (int j = 0; j <= 6; j++) {
                int square = i;
                int what = j;
                all.add(new Question("square(" + i + ", " + j + ")", x -> x.square(square, what)));
            }
        }
        for (int i = 0; i < 12; i++) {
            for (int j = 0; j <= 5; j++) {
                int hall = i;
                int what = j;
                all.add(new Question("hallOf(" + i + ", " + j + ")", x -> x.hallOf(hall, what)));
            }
        }
        for (int j = 0; j <= 5; j++) {
            int what = j;
            all.add(new Question("crowd(" + j + ")", x -> x.crowd(what)));
            all.add(new Question("count(" + j + ")", x -> x.count(what)));
        }
        all.add(new Question("fault()", x -> x.fault()));
        return all;
    }

    private static void ofPicture(List<Question> all) {
        for (int i = 0; i < 360; i++) {
            for (int j = 0; j < 20; j++) {
                int column = i;
                int row = j;
                all.add(new Question("colour(" + i + ", " + j + ")", x -> x.colour(column, row)));
                all.add(new Question("from(" + i + ", " + j + ")", x -> x.from(column, row)));
            }
        }
        for (int i = 0; i < 12; i++) {
            int view = i;
            all.add(new Question("seam(" + i + ")", x -> x.seam(view)));
        }
    }

    static List<String> differences(Check.Scene got, Check.Scene want) {
        List<String> differences = new ArrayList<>();
        PanoramaHouse x = null;
        PanoramaHouse y = null;
        for (int i = 0; i < QUESTIONS.size() && differences.size() < MOST_DIFFERENCES; i++) {
            if (i % QUESTIONS_AN_OBJECT == 0) {
                x = new PanoramaHouse();
                y = new PanoramaHouse();
                got.play(x);
                want.play(y);
            }
            Question question = QUESTIONS.get(i);
            int answer = question.call.on(x);
            int due = question.call.on(y);
            if (answer != due) {
                differences.add(question.name + " is " + answer + ", not " + due);
            }
        }
        return differences;
    }
}
