/** Counts and prints the answers that are not as due; each test has one. */
final class Due {
    private int wrong = 0;
    private int asked = 0;

    void same(String call, long got, long want) {
        asked++;
        if (got != want) {
            wrong++;
            if (wrong <= 50) {
                System.out.println(call + " answered " + got + ", due is " + want);
            }
        }
    }

    void holds(String what, boolean so) {
        same(what, so ? 1 : 0, 1);
    }

    /** Says each sign of a text. */
    static PeaCups say(PeaCups x, String text) {
        for (char sign : text.toCharArray()) {
            x.say(sign);
        }
        return x;
    }

    /** A new object on whose pad a text stands. */
    static PeaCups saying(String text) {
        return say(new PeaCups(), text);
    }

    void end() {
        System.out.println(asked + " answers, " + wrong + " not as due");
        if (wrong != 0) {
            System.exit(1);
        }
    }
}
