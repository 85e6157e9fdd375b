/** Counts the calls whose answer is not the one that is due, and prints each of them. */
final class Due {
    private int asked;
    private int wrong;

    void is(String call, long got, long due) {
        asked++;
        if (got != due) {
            tell(call, String.valueOf(got), String.valueOf(due));
        }
    }

    void is(String call, double got, double due) {
        asked++;
        if (got != due) {
            tell(call, String.valueOf(got), String.valueOf(due));
        }
    }

    void is(String call, boolean got, boolean due) {
        asked++;
        if (got != due) {
            tell(call, String.valueOf(got), String.valueOf(due));
        }
    }

    void is(String call, String got, String due) {
        asked++;
        if (!got.equals(due)) {
            tell(call, got, due);
        }
    }

    /** The very class counts: what the machine throws is of a class below the one that is due. */
    void isThrown(Class<? extends RuntimeException> due, String call, Runnable doing) {
        asked++;
        String got = "no exception";
        try {
            doing.run();
        } catch (RuntimeException e) {
            got = e.getClass().getSimpleName();
        }
        if (!got.equals(due.getSimpleName())) {
            tell(call, got, due.getSimpleName());
        }
    }

    private void tell(String call, String got, String due) {
        wrong++;
        if (wrong <= 50) {
            System.out.println(call + " answered " + got + ", due is " + due);
        }
    }

    void end() {
        System.out.println(asked + " asked, " + wrong + " wrong");
        if (wrong != 0 || asked == 0) {
            System.exit(1);
        }
    }
}
