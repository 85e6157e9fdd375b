import java.util.Arrays;

/** Counts the calls whose answer is not the one that is due, and prints each of them. */
final class Due {
    private int asked;
    private int wrong;
    private String about = "";

    /** What stands ahead of each wrong answer that is printed from now on. */
    void about(String text) {
        about = text;
    }

    int asked() {
        return asked;
    }

    void is(String call, long got, long due) {
        asked++;
        if (got != due) {
            tell(call, String.valueOf(got), String.valueOf(due));
        }
    }

    void is(String call, double got, double due) {
        asked++;
        if (got != due) {
            tell(call, String.valueOf(got), String.valueOf(due));
        }
    }

    void is(String call, boolean got, boolean due) {
        asked++;
        if (got != due) {
            tell(call, String.valueOf(got), String.valueOf(due));
        }
    }

    void is(String call, String got, String due) {
        asked++;
        if (!got.equals(due)) {
            tell(call, got, due);
        }
    }

    /** Where the document leaves it open, what is due names each of the answers: "this or that". */
    void isOneOf(String call, String got, String due) {
        asked++;
        if (!Arrays.asList(due.split(" or ")).contains(got)) {
            tell(call, got, due);
        }
    }

    /** The very class counts: what the machine throws is of a class below the one that is due. */
    void isThrown(Class<? extends RuntimeException> due, String call, Runnable doing) {
        asked++;
        String got = "no exception";
        try {
            doing.run();
        } catch (RuntimeException e) {
            got = e.getClass().getSimpleName();
        }
        if (!got.equals(due.getSimpleName())) {
            tell(call, got, due.getSimpleName());
        }
    }

    private void tell(String call, String got, String due) {
        wrong++;
        if (wrong <= 50) {
            String start = about.isEmpty() ? "" : about + "\n    ";
            System.out.println(start + call + " answered " + got + ", due is " + due);
        }
    }

    void end() {
        System.out.println(asked + " asked, " + wrong + " wrong");
        if (wrong != 0 || asked == 0) {
            System.exit(1);
        }
    }
}
