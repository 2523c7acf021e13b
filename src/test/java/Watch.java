/** Runs a test's main method and ends it when it takes too long: a break that makes a loop endless must fail, not hang. */
public final class Watch {
    /** The slowest test takes some ten seconds. */
    private static final long MOST_MILLIS = 200_000;
    private static final int TOO_LONG = 3;

    public static void main(String[] args) throws Exception {
        String test = args[0];
        Thread guard = new Thread(() -> endLate(test));
        guard.setDaemon(true);
        guard.start();
        Class.forName(test).getMethod("main", String[].class).invoke(null, (Object) new String[0]);
    }

    private static void endLate(String test) {
        try {
            Thread.sleep(MOST_MILLIS);
        } catch (InterruptedException e) {
            return;
        }
        System.out.println(test + " did not end within " + MOST_MILLIS / 1000 + " seconds");
        Runtime.getRuntime().halt(TOO_LONG);
    }
}
