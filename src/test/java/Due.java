/** Counts answers that are not as due, promise by promise. */
final class Due {
    private final String name;
    private final int[] looks = new int[42];
    private int promise;
    private int wrong;
    private int looked;

    Due(String name) {
        this.name = name;
    }

    void promise(int number) {
        promise = number;
    }

    void is(String call, long got, long want) {
        looked++;
        looks[promise]++;
        if (got != want) {
            wrong++;
            System.out.println(name + ": promise " + promise + ": " + call + " answered " + got + ", due is " + want);
        }
    }

    void holds(String what, boolean so) {
        is(what, so ? 1 : 0, 1);
    }

    /** A promise that no test looks at is a fault, too. */
    void needAllPromises() {
        for (int n = 1; n <= 41; n++) {
            promise = n;
            holds("is looked at", looks[n] > 0);
        }
    }

    void end() {
        System.out.println(name + ": " + looked + " answers, " + wrong + " not as due");
        if (wrong > 0) {
            System.exit(1);
        }
    }
}
