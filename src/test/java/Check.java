/** Counts the answers that were looked at, and prints those that are not the ones that are due. */
final class Check {
    private static int looked = 0;
    private static int wrong = 0;

    private Check() {}

    static void due(String what, long got, long want) {
        looked++;
        if (got != want) {
            wrong++;
            System.out.println(what + " answered " + got + ", due is " + want);
        }
    }

    static void holds(String what, boolean held) {
        looked++;
        if (!held) {
            wrong++;
            System.out.println("does not hold: " + what);
        }
    }

    static void end() {
        System.out.println(looked + " answers looked at, " + wrong + " not as due");
        if (wrong != 0 || looked == 0) {
            System.exit(1);
        }
    }
}
