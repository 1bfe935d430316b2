/** What the tests share: each wrong answer is printed and counted. */
final class Check {
    interface Maker {
        BusStage make();
    }

    interface Call {
        Object on(BusStage x);
    }

    private int wrong = 0;

    void same(String what, long got, long due) {
        if (got != due) {
            report(what + " answered " + got + ", due is " + due);
        }
    }

    void same(String what, double got, double due) {
        if (got != due) {
            report(what + " answered " + got + ", due is " + due);
        }
    }

    void holds(String what, boolean isSo) {
        if (!isSo) {
            report(what + " does not hold");
        }
    }

    void refusesIndex(String what, Maker maker, Call call) {
        refuses(what, maker, IndexOutOfBoundsException.class, call);
    }

    void refusesArgument(String what, Maker maker, Call call) {
        refuses(what, maker, IllegalArgumentException.class, call);
    }

    void refusesState(String what, Maker maker, Call call) {
        refuses(what, maker, IllegalStateException.class, call);
    }

    /** The call throws just this kind of exception, and changes nothing. */
    private void refuses(String what, Maker maker, Class<? extends RuntimeException> due, Call call) {
        BusStage called = maker.make();
        Class<?> got = null;
        try {
            call.on(called);
        } catch (RuntimeException thrown) {
            got = thrown.getClass();
        }
        if (got != due) {
            report(what + " threw " + got + ", due is " + due);
        }
        staysAlike(what, called, maker.make());
    }

    /** The call answers, and the object is as one on which it was not called. */
    void changesNothing(String what, Maker maker, Call call) {
        BusStage called = maker.make();
        call.on(called);
        staysAlike(what, called, maker.make());
    }

    /** Two hours on as well: what no call tells now (a transfer) shows by then. */
    private void staysAlike(String what, BusStage called, BusStage notCalled) {
        if (called.digest() != notCalled.digest()) {
            report(what + " changed something");
        }
        called.go(120);
        notCalled.go(120);
        if (called.digest() != notCalled.digest()) {
            report(what + " changed what comes later");
        }
    }

    void finish() {
        System.out.println(wrong == 0 ? "all answers are as due" : wrong + " answers are not as due");
        if (wrong != 0) {
            System.exit(1);
        }
    }

    private void report(String text) {
        wrong++;
        System.out.println(text);
    }
}
