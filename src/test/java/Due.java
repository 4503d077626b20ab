/** Counts the answers of a test that are not the ones that are due. */
final class Due {
    private static final int MOST_SECONDS = 300;

    private final String test;
    private int answers = 0;
    private int wrong = 0;

    Due(String test) {
        this.test = test;
        endIfItHangs();
    }

    void is(String call, long got, long want) {
        answers++;
        if (got != want) {
            wrong++;
            if (wrong <= 20) {
                System.out.println(test + ": " + call + " answered " + got + ", due is " + want);
            }
        }
    }

    int answers() {
        return answers;
    }

    boolean hasWrong() {
        return wrong > 0;
    }

    void end() {
        System.out.println(test + ": " + answers + " answers, " + wrong + " of them not as due");
        if (wrong > 0) {
            System.exit(1);
        }
    }

    // a call that fails to end is a wrong one, too
    private void endIfItHangs() {
        Thread watch = new Thread(() -> {
            try {
                Thread.sleep(MOST_SECONDS * 1000L);
            } catch (InterruptedException e) {
                return;
            }
            System.out.println(test + ": has not ended after " + MOST_SECONDS + " seconds");
            Runtime.getRuntime().halt(1);
        });
        watch.setDaemon(true);
        watch.start();
    }
}
