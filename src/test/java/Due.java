/** What the tests share: answers set against those that are due, and lines said sign by sign. */
final class Due {
    private int wrong = 0;
    private String about = "";

    void about(String promise) {
        about = promise;
    }

    void is(String call, int got, int want) {
        if (got != want) {
            wrong++;
            System.out.println(about + ": " + call + " answered " + got + ", due is " + want);
        }
    }

    /** Ends the test, with exit code 1 if an answer was wrong. */
    void end() {
        System.out.println(wrong == 0 ? "all answers are as due" : wrong + " answers are not as due");
        if (wrong != 0) {
            System.exit(1);
        }
    }

    static void type(StreamWeave weave, String text) {
        for (int k = 0; k < text.length(); k++) {
            weave.say(text.charAt(k));
        }
    }

    static int line(StreamWeave weave, String text) {
        weave.wipe();
        type(weave, text);
        return weave.line();
    }

    static StreamWeave woven(String... lines) {
        StreamWeave weave = new StreamWeave();
        for (String text : lines) {
            int answer = line(weave, text);
            if (answer < 0) {
                throw new IllegalStateException(text + " was refused with " + answer);
            }
        }
        return weave;
    }
}
