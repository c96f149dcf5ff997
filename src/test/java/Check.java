/** Counts the answers that are not as due, and ends the test by it. */
final class Check {
    static final int BAD = -1, NO = -2, FULL = -3, NONE = -4;

    private int asked;
    private int wrong;

    void due(String call, long got, long want) {
        asked++;
        if (got != want) {
            wrong++;
            System.out.println(call + " answered " + got + ", due is " + want);
        }
    }

    void end() {
        System.out.println((asked - wrong) + " of " + asked + " answers are as due");
        if (wrong != 0 || asked == 0) {
            System.exit(1);
        }
    }

    static void writeAll(PlatesLookingIn x, String text) {
        for (int i = 0; i < text.length(); i++) {
            x.write(text.charAt(i));
        }
    }

    static PlatesLookingIn laid(String text) {
        PlatesLookingIn x = new PlatesLookingIn();
        writeAll(x, text);
        x.lay();
        x.wipe();
        return x;
    }

    void dueFault(String text, int want) {
        PlatesLookingIn x = new PlatesLookingIn();
        writeAll(x, text);
        due("fault() of " + text, x.fault(), want);
        boolean layable = want == NONE && text.indexOf('t') >= 0;
        due("whether lay() is NO, of " + text, x.lay() == NO ? 1 : 0, layable ? 0 : 1);
    }
}
