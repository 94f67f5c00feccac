/** Counts the answers that are not as due, and tells of them. */
final class Check {
    interface Call {
        long answer();
    }

    private int right = 0;
    private int wrong = 0;
    private String promise = "";

    void promise(String name) {
        promise = name;
    }

    void due(String call, long got, long want) {
        tell(call, "" + got, "" + want);
    }

    void refused(String call, Class<? extends RuntimeException> want, Call made) {
        tell(call, outcome(made), "throws." + want.getSimpleName());
    }

    void tell(String call, String got, String want) {
        if (got.equals(want)) {
            right++;
            return;
        }
        wrong++;
        System.out.println(promise + ": " + call + " answered " + got + ", due is " + want);
    }

    static String outcome(Call made) {
        try {
            return "" + made.answer();
        } catch (RuntimeException e) {
            return "throws." + e.getClass().getSimpleName();
        }
    }

    void end(String name) {
        System.out.println(name + ": " + right + " answers as due, " + wrong + " not");
        if (wrong != 0 || right == 0) {
            System.exit(1);
        }
    }
}
