import java.util.List;

/** What the tests share: each names a promise and the sentence it stands for, and tells what isn't as due. */
final class Check {
    private static final int MOST_TOLD = 60;

    private static int promise;
    private static String sentence;
    private static int tests = 0;
    private static int wrong = 0;

    private Check() {
    }

    /** Calls that bring a new house to some state. */
    interface Scene {
        void play(PanoramaHouse x);

        default Scene then(Scene next) {
            return x -> {
                play(x);
                next.play(x);
            };
        }
    }

    /** One call whose answer is looked at. */
    interface Call {
        int on(PanoramaHouse x);
    }

    static void test(int ofPromise, String said, Runnable body) {
        promise = ofPromise;
        sentence = said;
        tests++;
        body.run();
    }

    static void due(String call, int got, int want) {
        if (got != want) {
            tell(call + " answered " + got + ", due is " + want);
        }
    }

    static void due(String call, boolean got, boolean want) {
        due(call, got ? 1 : 0, want ? 1 : 0);
    }

    /** The call answers so and does nothing: neither now nor later can the house be told from one not called. */
    static void refuses(Scene before, String name, int want, Call call) {
        PanoramaHouse x = new PanoramaHouse();
        before.play(x);
        due(name, call.on(x), want);
        Scene refused = before.then(call::on);
        same("after " + name, refused, before);
        same("later after " + name, refused.then(Scenes::goOn), before.then(Scenes::goOn));
    }

    /** Both scenes leave a house that answers every question alike. */
    static void same(String name, Scene got, Scene want) {
        List<String> differences = State.differences(got, want);
        if (!differences.isEmpty()) {
            tell(name + " differ: " + differences);
        }
    }

    private static void tell(String what) {
        wrong++;
        if (wrong <= MOST_TOLD) {
            System.out.println("promise " + promise + " (" + sentence + "): " + what);
        }
    }

    /** To be called last: the exit code is 1 if an answer was not as due. */
    static void end() {
        System.out.println(wrong == 0 ? "all answers of " + tests + " tests are as due" : wrong + " answers are not as due");
        if (wrong != 0) {
            System.exit(1);
        }
    }
}
