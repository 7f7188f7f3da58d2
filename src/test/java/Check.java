/** Compares answers with those that are due, prints every wrong one and counts them. */
final class Check {
    private final String test;
    private String part = "";
    private int parts = 0;
    private int answersOfPart = 0;
    private String call = "";
    private int answers = 0;
    private int wrong = 0;

    Check(String test) {
        this.test = test;
    }

    /** What the next answers are about, mostly a sentence of the document; each must have some. */
    void about(String words) {
        partEnds();
        part = " (" + words + ")";
        parts++;
        answersOfPart = 0;
    }

    private void partEnds() {
        if (parts > 0 && answersOfPart == 0) {
            fault("nothing is tested here");
        }
    }

    /** The call whose answer comes to due(got, want) next. */
    void called(String text) {
        call = text;
    }

    void due(long got, long want) {
        due(call, got, want);
    }

    void due(String name, long got, long want) {
        answers++;
        answersOfPart++;
        if (got != want) {
            wrong++;
            System.out.println(test + part + ": " + name + " answered " + got + ", due is " + want);
        }
    }

    void fault(String text) {
        wrong++;
        System.out.println(test + part + ": " + text);
    }

    /** Ends the test's program, with exit code 1 if an answer was wrong. */
    void end() {
        partEnds();
        String in = parts > 0 ? " in " + parts + " parts" : "";
        System.out.println(test + ": " + answers + " answers" + in + ", " + wrong + " wrong");
        if (wrong != 0) {
            System.exit(1);
        }
    }
}
