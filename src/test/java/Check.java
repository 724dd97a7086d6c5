/** What the tests have in common: counts what is wrong, prints it, and ends with exit code 1 if anything was. */
final class Check {
    private static int wrong = 0;
    private static int checked = 0;
    private static String sentence = "";

    private Check() {
    }

    interface Call {
        void run() throws Exception;
    }

    /** What is checked inside belongs to one sentence of the document, which each failure names. */
    static void sentence(String promise, String words, Call test) {
        int before = checked;
        sentence = promise + " \"" + words + "\": ";
        try {
            test.run();
        } catch (Exception e) {
            fail("threw " + e);
        }
        if (checked == before) {
            fail("nothing was checked");
        }
        sentence = "";
    }

    static void same(String what, long got, long due) {
        checked++;
        if (got != due) {
            fail(what + " answered " + got + ", due is " + due);
        }
    }

    static void same(String what, boolean got, boolean due) {
        same(what, got ? 1 : 0, due ? 1 : 0);
    }

    static void same(String what, double got, double due) {
        checked++;
        if (Double.compare(got, due) != 0) {
            fail(what + " answered " + got + ", due is " + due);
        }
    }

    static void same(String what, String got, String due) {
        checked++;
        if (!got.equals(due)) {
            fail(what + " answered " + got + ", due is " + due);
        }
    }

    /** The very class is due: an exception of the machine's that is below it counts as wrong. */
    static void throwsOnly(String what, Class<? extends Exception> due, Call call) {
        checked++;
        try {
            call.run();
        } catch (Exception e) {
            if (e.getClass() != due) {
                fail(what + " threw " + e + ", due is " + due.getName());
            }
            return;
        }
        fail(what + " threw nothing, due is " + due.getName());
    }

    static void fail(String what) {
        wrong++;
        if (wrong <= 50) {
            System.out.println(sentence + what);
        }
    }

    static void end() {
        System.out.println(checked + " checked, " + wrong + " wrong");
        if (wrong != 0 || checked == 0) {
            System.exit(1);
        }
    }
}
