/** Counts the answers that are not as due, and tells them. */
final class Check {
    private static int wrong;
    private static int looked;

    private Check() { }

    static void due(String call, long got, long want) {
        looked++;
        if (got != want) {
            wrong++;
            if (wrong <= 40) {
                System.out.println(call + " answered " + got + ", due is " + want);
            }
        }
    }

    static void fault(String text) {
        wrong++;
        System.out.println(text);
    }

    static boolean isWrong() {
        return wrong > 0;
    }

    static void end() {
        System.out.println(looked + " answers, " + wrong + " not as due");
        if (wrong > 0) {
            System.exit(1);
        }
    }
}
