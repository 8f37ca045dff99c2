/** Runs the main method of a test; one that does not come to an end fails, where it would otherwise hold up all others. */
final class WithinTime {
    private static final long MOST_MILLISECONDS = 120_000;

    public static void main(String[] args) throws Exception {
        Thread watch = new Thread(() -> failLater(args[0]));
        watch.setDaemon(true);
        watch.start();
        Class.forName(args[0]).getMethod("main", String[].class).invoke(null, (Object) new String[0]);
    }

    private static void failLater(String test) {
        try {
            Thread.sleep(MOST_MILLISECONDS);
        } catch (InterruptedException e) {
            return;
        }
        System.out.println(test + " did not come to an end in time");
        Runtime.getRuntime().halt(1);
    }
}
