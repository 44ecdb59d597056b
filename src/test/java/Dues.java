/** Counts the answers that are not as due, and prints them. */
final class Dues {
    private static final long LONGEST_TEST = 300_000L;
    private int wrong = 0;
    private int looked = 0;

    /** A call that does not end fails its test as well. */
    Dues() {
        Thread watch = new Thread(Dues::stopLater);
        watch.setDaemon(true);
        watch.start();
    }

    private static void stopLater() {
        try {
            Thread.sleep(LONGEST_TEST);
        } catch (InterruptedException e) {
            return;
        }
        System.out.println("a test did not end");
        Runtime.getRuntime().halt(1);
    }

    void due(String call, long got, long want) {
        looked++;
        if (got != want) {
            wrong++;
            System.out.println(call + " answered " + got + ", due is " + want);
        }
    }

    void dueDouble(String call, double got, double want) {
        looked++;
        if (!(got == want)) {
            wrong++;
            System.out.println(call + " answered " + got + ", due is " + want);
        }
    }

    void end() {
        System.out.println(looked + " answers, " + wrong + " not as due");
        if (wrong != 0 || looked == 0) {
            System.exit(1);
        }
    }
}
