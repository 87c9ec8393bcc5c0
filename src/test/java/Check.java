/** Counts the answers that are not the ones that are due. */
final class Check {
    interface Call {
        double answer();
    }

    private static int checks = 0;
    private static int wrong = 0;

    private Check() {
    }

    static void due(String what, double got, double want) {
        checks++;
        if (got != want) {
            fail(what + " answered " + got + ", due is " + want);
        }
    }

    static void same(String what, String got, String want) {
        checks++;
        if (!got.equals(want)) {
            fail(what + " answered " + got + ", due is " + want);
        }
    }

    static void fail(String what) {
        wrong++;
        System.out.println(what);
    }

    static int count() {
        return checks;
    }

    /** The call has to throw exactly this exception, and to change nothing of x. */
    static void refuses(MourningRibbons x, String what, Class<? extends RuntimeException> due, Call call) {
        long before = x.digest();
        String thrown = "nothing";
        try {
            call.answer();
        } catch (RuntimeException e) {
            thrown = e.getClass().getName();
        }
        same(what + " throwing", thrown, due.getName());
        due(what + " changing nothing: digest()", x.digest() == before ? 1 : 0, 1);
    }

    static void end(String name) {
        System.out.println(name + ": " + checks + " checks, " + wrong + " wrong");
        if (wrong != 0) {
            System.exit(1);
        }
    }
}
