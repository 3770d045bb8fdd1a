/** Ends a test that does not end by itself: a call that fails to end is at fault, too. */
final class Watch {
    private static final int SECONDS = 300;

    private Watch() {
    }

    static void begin() {
        Thread watch = new Thread(Watch::waitAndHalt);
        watch.setDaemon(true);
        watch.start();
    }

    private static void waitAndHalt() {
        try {
            Thread.sleep(1000L * SECONDS);
        } catch (InterruptedException e) {
            return;
        }
        System.out.println("no end after " + SECONDS + " seconds");
        Runtime.getRuntime().halt(1);
    }
}
