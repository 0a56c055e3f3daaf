/** What every test of the project counts its wrong answers with. */
final class Check {
    private int asked = 0;
    private int wrong = 0;

    void same(String call, long got, long due) {
        asked++;
        if (got != due) {
            tell(call, Long.toString(got), Long.toString(due));
        }
    }

    /** Bit for bit: -0.0 is not 0.0. */
    void same(String call, double got, double due) {
        asked++;
        if (Double.doubleToRawLongBits(got) != Double.doubleToRawLongBits(due)) {
            tell(call, Double.toString(got), Double.toString(due));
        }
    }

    void same(String call, boolean got, boolean due) {
        same(call, got ? 1L : 0L, due ? 1L : 0L);
    }

    void same(String call, String got, String due) {
        asked++;
        if (!got.equals(due)) {
            tell(call, got, due);
        }
    }

    /** IndexOutOfBoundsException, and the house is as it was. */
    void noIndex(String call, OverrunHouse house, Runnable run) {
        fails(call, house, "IndexOutOfBoundsException", run);
    }

    /** IllegalArgumentException, and the house is as it was. */
    void noArgument(String call, OverrunHouse house, Runnable run) {
        fails(call, house, "IllegalArgumentException", run);
    }

    /** IllegalStateException, and the house is as it was. */
    void noState(String call, OverrunHouse house, Runnable run) {
        fails(call, house, "IllegalStateException", run);
    }

    private void fails(String call, OverrunHouse house, String due, Runnable run) {
        long before = house.digest();
        String got = "nothing";
        try {
            run.run();
        } catch (RuntimeException e) {
            got = e.getClass().getSimpleName();
        }
        same(call + " throws", got, due);
        same(call + " changes the digest", house.digest(), before);
    }

    private void tell(String call, String got, String due) {
        wrong++;
        System.out.println(call + " answered " + got + ", due is " + due);
    }

    /** Ends the program: with 1 if an answer was wrong, or nothing was asked. */
    void end() {
        System.out.println(asked + " answers, " + wrong + " wrong");
        if (wrong > 0 || asked == 0) {
            System.exit(1);
        }
    }
}
