/** Counts the answers that are not as due, and tells of them. */
final class Check {
    interface Call {
        long answer();
    }

    interface Build {
        ArmRoom room();
    }

    interface Use {
        long on(ArmRoom room);
    }

    private int right = 0;
    private int wrong = 0;
    private String promise = "";

    void promise(String name) {
        promise = name;
    }

    void due(String call, long got, long want) {
        tell(call, "" + got, "" + want);
    }

    void refused(String call, Class<? extends RuntimeException> want, Call made) {
        tell(call, outcome(made), "throws." + want.getSimpleName());
    }

    /** Afterwards the room must answer as one of the same build on which the call was never made. */
    void refusedUnchanged(String call, Class<? extends RuntimeException> want, Build build, Use use) {
        ArmRoom room = build.room();
        refused(call, want, () -> use.on(room));
        tell(call + ", what stands behind it", Sight.usingUp(room), Sight.usingUp(build.room()));
    }

    void tell(String call, String got, String want) {
        if (got.equals(want)) {
            right++;
            return;
        }
        wrong++;
        System.out.println(promise + ": " + call + " answered " + got + ", due is " + want);
    }

    static String outcome(Call made) {
        try {
            return "" + made.answer();
        } catch (RuntimeException e) {
            return "throws." + e.getClass().getSimpleName();
        }
    }

    void end(String name) {
        System.out.println(name + ": " + right + " answers as due, " + wrong + " not");
        if (wrong != 0 || right == 0) {
            System.exit(1);
        }
    }
}
