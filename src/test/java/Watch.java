/** A call that never ends must fail its test, not hold it up for ever. */
final class Watch {
    private static final long MOST_MILLIS = 300_000;

    private Watch() {
    }

    static void begin(String name) {
        Thread watch = new Thread(() -> {
            try {
                Thread.sleep(MOST_MILLIS);
            } catch (InterruptedException e) {
                return;
            }
            System.out.println(name + ": no end in sight");
            Runtime.getRuntime().halt(1);
        });
        watch.setDaemon(true);
        watch.start();
    }
}
