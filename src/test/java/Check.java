/** Compares answers with those that are due and ends a test with exit code 1 if one was wrong. */
final class Check {
    static final int BEYOND = -100001;
    static final int MISSING = -100002;
    static final int SIZE = -100003;
    static final int KIND = -100004;
    static final int FULL = -100005;
    static final int NONE = -100006;
    static final int TAKEN = -100007;
    static final int STUCK = -100008;
    static final int BARRED = -100009;

    private int promise = 0;
    private String words = "";
    private int asked = 0;
    private int wrong = 0;

    /** What follows tests this promise of the document. */
    void promise(int number) {
        promise = number;
        words = "";
    }

    /** What follows tests these words of the document (DocumentTest looks whether they stand there). */
    void words(String quoted) {
        words = ", \"" + quoted + "\"";
    }

    void due(String call, int got, int want) {
        asked++;
        if (got != want) {
            wrong++;
            System.out.println("promise " + promise + words + ": " + call + " answered " + got + ", due is "
                + want);
        }
    }

    void that(String what, boolean holds) {
        due(what, holds ? 1 : 0, 1);
    }

    void end() {
        System.out.println(asked + " answers, " + wrong + " not as due");
        if (wrong != 0 || asked == 0) {
            System.exit(1);
        }
    }

    /** Tells a run of calls on a new object (see Run.told). */
    Run run(String text) {
        return new Run(this).told(text);
    }

    /** Sets a sheet of 32 bits to these numbers. */
    static void fill(CellarCars x, int s, int... numbers) {
        x.sheet(s, 32, numbers.length);
        for (int i = 0; i < numbers.length; i++) {
            x.put(s, i, numbers[i]);
        }
    }

    /** Cars of one length, low and light, that leave at these hours. */
    static void cars(CellarCars x, int length, int... hours) {
        for (int hour : hours) {
            x.car(length, 1, 1, hour, 0, 0);
        }
    }

    static void keysForAll(CellarCars x) {
        for (int car = 0; car < x.all(1); car++) {
            x.note(car, 0, true);
        }
    }
}
