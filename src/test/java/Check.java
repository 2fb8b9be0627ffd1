/** Counts the answers of one test that are not as due. */
final class Check {
    private static int made = 0;
    private static int wrong = 0;
    /** Told ahead of each answer that is not as due. */
    private static String about = "";

    private Check() {
    }

    static void about(String what) {
        about = what;
    }

    static int made() {
        return made;
    }

    static void due(String what, long got, long want) {
        made++;
        if (got != want) {
            tell(what + " answered " + got + ", due is " + want);
        }
    }

    static void dueThat(String what, boolean holds) {
        made++;
        if (!holds) {
            tell(what + " does not hold");
        }
    }

    private static void tell(String fault) {
        wrong++;
        System.out.println(about + fault);
    }

    static void finish() {
        System.out.println(wrong == 0 ? made + " answers are as due" : wrong + " of " + made + " answers are not as due");
        if (wrong != 0) {
            System.exit(1);
        }
    }
}
