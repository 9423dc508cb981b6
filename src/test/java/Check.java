/** Counts the answers that are not as due, and ends the run with exit code 1 if there were any. */
final class Check {
    private int checked;
    private int wrong;

    void due(String call, long got, long want) {
        checked++;
        if (got != want) {
            wrong++;
            System.out.println(call + " answered " + got + ", due is " + want);
        }
    }

    void holds(String what, boolean is) {
        due(what, is ? 1 : 0, 1);
    }

    void end(String name) {
        System.out.println(name + ": " + checked + " answers looked at, " + wrong + " not as due");
        if (checked == 0 || wrong != 0) {
            System.exit(1);
        }
    }

    /** Feeds a text, sign by sign; answers what statute() answers. */
    static int enact(WitnessPays x, String text) {
        for (int i = 0; i < text.length(); i++) {
            x.feed(text.charAt(i));
        }
        return x.statute();
    }
}
