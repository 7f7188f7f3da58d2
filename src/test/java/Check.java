/** Compares answers with those that are due, prints every wrong one and counts them. */
final class Check {
    /** What at() and octet() are taken to answer when they throw; no byte has this value. */
    static final int THROWS = 1000;

    private final String test;
    private int wrong = 0;
    private int calls = 0;

    Check(String test) {
        this.test = test;
    }

    void due(String call, long got, long want) {
        calls++;
        if (got != want) {
            wrong++;
            System.out.println(test + ": " + call + " answered " + got + ", due is " + want);
        }
    }

    /** Ends the test's program, with exit code 1 if an answer was wrong. */
    void end() {
        System.out.println(test + ": " + calls + " answers, " + wrong + " of them wrong");
        if (wrong != 0) {
            System.exit(1);
        }
    }

    static int at(ObjectStreams x, int object, int i) {
        try {
            return x.at(object, i);
        } catch (ArrayIndexOutOfBoundsException e) {
            return THROWS;
        }
    }

    static int octet(ObjectStreams x, int pack, int i) {
        try {
            return x.octet(pack, i);
        } catch (ArrayIndexOutOfBoundsException e) {
            return THROWS;
        }
    }
}
