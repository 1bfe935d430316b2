/** What the tests share: each wrong answer is printed and counted. */
final class Check {
    interface Call {
        Object run();
    }

    private int wrong = 0;

    void same(String what, long got, long due) {
        if (got != due) {
            report(what + " answered " + got + ", due is " + due);
        }
    }

    void same(String what, double got, double due) {
        if (got != due) {
            report(what + " answered " + got + ", due is " + due);
        }
    }

    void holds(String what, boolean isSo) {
        if (!isSo) {
            report(what + " does not hold");
        }
    }

    /** The call throws just this kind of exception, and changes nothing. */
    void refuses(String what, BusStage stage, Class<? extends RuntimeException> due, Call call) {
        long before = stage.digest();
        Class<?> got = null;
        try {
            call.run();
        } catch (RuntimeException thrown) {
            got = thrown.getClass();
        }
        if (got != due) {
            report(what + " threw " + got + ", due is " + due);
        }
        if (stage.digest() != before) {
            report(what + " changed something");
        }
    }

    void refusesIndex(String what, BusStage stage, Call call) {
        refuses(what, stage, IndexOutOfBoundsException.class, call);
    }

    void refusesArgument(String what, BusStage stage, Call call) {
        refuses(what, stage, IllegalArgumentException.class, call);
    }

    void refusesState(String what, BusStage stage, Call call) {
        refuses(what, stage, IllegalStateException.class, call);
    }

    void finish() {
        System.out.println(wrong == 0 ? "all answers are as due" : wrong + " answers are not as due");
        if (wrong != 0) {
            System.exit(1);
        }
    }

    private void report(String text) {
        wrong++;
        System.out.println(text);
    }
}
