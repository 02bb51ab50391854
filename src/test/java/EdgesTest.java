/** All calls with numbers at and beyond every edge: none throws, and all answer as the model does. */
public final class EdgesTest {
    private static final int[] EDGES = {Integer.MIN_VALUE, -100, -7, -6, -2, -1, 0, 1, 2, 3, 4, 5, 6, 7, 8, 9, 10, 11,
        12, 13, 39, 40, 41, 98, 99, 100, 399, 400, Integer.MAX_VALUE - 1, Integer.MAX_VALUE};
    private static final String[] LINES = {"wide 3", "table 6", "clock 1 4", "room 2 3", "frame 1 9 3", "frame 1 2 8",
        "frame 2 9 12", "frame 3 1 99", "tabl"};
    private static final Due due = new Due();

    public static void main(String[] args) {
        for (int a : EDGES) {
            callsOfOne(a);
            for (int b : EDGES) {
                callsOfTwoAndThree(a, b);
            }
        }
        due.end();
    }

    private static StreamWeave woven() {
        StreamWeave x = new StreamWeave();
        for (String text : LINES) {
            Due.line(x, text);
        }
        return x;
    }

    private static Model model() {
        Model model = new Model();
        for (String text : LINES) {
            model.wipe();
            for (int k = 0; k < text.length(); k++) {
                model.say(text.charAt(k));
            }
            model.line();
        }
        return model;
    }

    private static void callsOfOne(int a) {
        StreamWeave x = woven();
        Model model = model();
        due.about("number " + a);
        due.is("say", x.say(a), model.say(a));
        due.is("sent", x.sent(a), model.sent(a));
        due.is("most", x.most(a), model.most(a));
        due.is("room", x.room(a), model.room(a));
        due.is("without", x.without(a), model.without(a));
        due.is("restore", x.restore(a), model.restore(a));
        due.is("image", x.image(a), model.image(a));
        due.is("restore", x.restore(a), model.restore(a));
        due.is("count", x.count(a), model.count(a));
    }

    private static void callsOfTwoAndThree(int a, int b) {
        StreamWeave x = woven();
        Model model = model();
        due.about("numbers " + a + ", " + b);
        due.is("told", x.told(a, b), model.told(a, b));
        due.is("held", x.held(a, b), model.held(a, b));
        for (int c : EDGES) {
            due.is("written(.., " + c + ")", x.written(a, b, c), model.written(a, b, c));
            due.is("packet(.., " + c + ")", x.packet(a, b, c), model.packet(a, b, c));
            due.is("frame(.., " + c + ")", x.frame(a, b, c), model.frame(a, b, c));
        }
    }
}
