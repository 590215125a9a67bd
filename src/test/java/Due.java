/** Counts answers that are not as due, promise by promise. */
final class Due {
    private final String name;
    private final int[] looks = new int[42];
    private int promise;
    private String sentence = "";
    private int wrong;
    private int looked;

    Due(String name) {
        this.name = name;
        Watch.begin(name);
    }

    void promise(int number) {
        promise(number, "");
    }

    /** The sentence of the promise that the next answers are held against. */
    void promise(int number, String words) {
        promise = number;
        sentence = words.isEmpty() ? "" : " (" + words + ")";
    }

    void is(String call, long got, long want) {
        looked++;
        looks[promise]++;
        if (got != want) {
            wrong++;
            System.out.println(name + ": promise " + promise + sentence + ": " + call + " answered " + got
                    + ", due is " + want);
        }
    }

    void holds(String what, boolean so) {
        looked++;
        looks[promise]++;
        if (!so) {
            wrong++;
            System.out.println(name + ": promise " + promise + sentence + ": does not hold: " + what);
        }
    }

    /** A promise that no test looks at is a fault, too. */
    void needPromises(int first, int last) {
        for (int n = first; n <= last; n++) {
            boolean seen = looks[n] > 0;
            promise(n);
            holds("is looked at", seen);
        }
    }

    void end() {
        System.out.println(name + ": " + looked + " answers, " + wrong + " not as due");
        if (wrong > 0) {
            System.exit(1);
        }
    }
}
