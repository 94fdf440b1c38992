/** Compares answers with those that are due, prints the ones that differ, and ends the test. */
final class Check {
    interface Call {
        long answer();
    }

    static final long IOOBE = 1;
    static final long IAE = 2;
    static final long ISE = 3;
    static final long OTHER = 4;

    private static int right;
    private static int wrong;

    private Check() {
    }

    static void due(String what, long want, long got) {
        if (want == got) {
            right++;
        } else {
            wrong++;
            System.out.println(what + " answered " + got + ", due is " + want);
        }
    }

    static void dueDouble(String what, double want, double got) {
        if (want == got) {
            right++;
        } else {
            wrong++;
            System.out.println(what + " answered " + got + ", due is " + want);
        }
    }

    /** The call must throw just this, and leave what the object tells as it was. */
    static void dueThrow(String what, SandcastleLeague league, long want, Call call) {
        long before = league.digest();
        due(what + " throws", want, thrownBy(call));
        due(what + " changes nothing", before, league.digest());
    }

    /** 0 if the call throws nothing. */
    static long thrownBy(Call call) {
        try {
            call.answer();
            return 0;
        } catch (RuntimeException e) {
            return kindOf(e);
        }
    }

    static long kindOf(RuntimeException e) {
        if (e.getClass() == IndexOutOfBoundsException.class) {
            return IOOBE;
        }
        if (e.getClass() == IllegalArgumentException.class) {
            return IAE;
        }
        return e.getClass() == IllegalStateException.class ? ISE : OTHER;
    }

    static void finish(String name) {
        System.out.println(name + ": " + right + " answers as due, " + wrong + " not");
        if (wrong > 0 || right == 0) {
            System.exit(1);
        }
    }
}
