/** Counts the answers that are not as due, and ends the test by it. */
final class Check {
    static final int BAD = -1, NO = -2, FULL = -3, NONE = -4;
    static final int LOWEST = Integer.MIN_VALUE, HIGHEST = Integer.MAX_VALUE;

    private String sentence = "";
    private int sentences;
    private int askedOfSentence = 1;
    private int asked;
    private int wrong;

    /** What follows tests these words of the document. */
    void edge(String words) {
        refuseUntested();
        sentence = "\"" + words + "\": ";
        sentences++;
        askedOfSentence = 0;
    }

    private void refuseUntested() {
        if (askedOfSentence == 0) {
            wrong++;
            System.out.println(sentence + "nothing was asked");
        }
    }

    void due(String call, long got, long want) {
        asked++;
        askedOfSentence++;
        if (got != want) {
            wrong++;
            System.out.println(sentence + call + " answered " + got + ", due is " + want);
        }
    }

    void end() {
        refuseUntested();
        String of = sentences == 0 ? "" : ", to " + sentences + " sentences of the document";
        System.out.println((asked - wrong) + " of " + asked + " answers are as due" + of);
        if (wrong != 0 || asked == 0) {
            System.exit(1);
        }
    }

    static void writeAll(PlatesLookingIn x, String text) {
        for (int i = 0; i < text.length(); i++) {
            x.write(text.charAt(i));
        }
    }

    static PlatesLookingIn laid(String text) {
        PlatesLookingIn x = new PlatesLookingIn();
        writeAll(x, text);
        if (x.lay() < 0) {
            throw new IllegalStateException("the test's own text is not laid: " + text);
        }
        x.wipe();
        return x;
    }

    void dueFault(String text, int want) {
        PlatesLookingIn x = new PlatesLookingIn();
        writeAll(x, text);
        due("fault() of " + text, x.fault(), want);
        boolean layable = want == NONE && text.indexOf('t') >= 0;
        due("whether lay() is NO, of " + text, x.lay() == NO ? 1 : 0, layable ? 0 : 1);
    }
}
