/** Compares answers with those that are due, prints the ones that differ, and ends the test. */
final class Check {
    interface Call {
        long answer();
    }

    static final long IOOBE = 1;
    static final long IAE = 2;
    static final long ISE = 3;
    static final long OTHER = 4;

    private static int right;
    private static int wrong;
    private static int sentences;
    private static String place = "";

    private Check() {
    }

    static void due(String what, long want, long got) {
        compared(want == got, what + " answered " + got + ", due is " + want);
    }

    static void dueDouble(String what, double want, double got) {
        compared(want == got, what + " answered " + got + ", due is " + want);
    }

    private static void compared(boolean same, String difference) {
        if (same) {
            right++;
        } else {
            wrong++;
            System.out.println(place + difference);
        }
    }

    /** Tests one sentence of the document; each answer that is not due is told with it. */
    static void sentence(String where, String words, Runnable test) {
        int before = right + wrong;
        place = where + ", \"" + words + "\": ";
        try {
            test.run();
        } catch (RuntimeException e) {
            compared(false, "the test ended with " + e);
        }
        compared(right + wrong > before, "the test compared nothing");
        sentences++;
        place = "";
    }

    /** The call must throw just this, and leave what the object tells as it was. */
    static void dueThrow(String what, SandcastleLeague league, long want, Call call) {
        long before = league.digest();
        due(what + " throws", want, thrownBy(call));
        due(what + " changes nothing", before, league.digest());
    }

    /** 0 if the call throws nothing. */
    static long thrownBy(Call call) {
        try {
            call.answer();
            return 0;
        } catch (RuntimeException e) {
            return kindOf(e);
        }
    }

    static long kindOf(RuntimeException e) {
        if (e.getClass() == IndexOutOfBoundsException.class) {
            return IOOBE;
        }
        if (e.getClass() == IllegalArgumentException.class) {
            return IAE;
        }
        return e.getClass() == IllegalStateException.class ? ISE : OTHER;
    }

    static void finish(String name) {
        String tested = sentences > 0 ? sentences + " sentences, " : "";
        System.out.println(name + ": " + tested + right + " answers as due, " + wrong + " not");
        if (wrong > 0 || right == 0) {
            System.exit(1);
        }
    }
}
