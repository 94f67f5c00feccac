import java.util.Arrays;

/** All promises: runs of calls whose answers, and the state behind them, must be those of the plain model. */
public final class ModelTest {
    private static final Check CHECK = new Check();
    private static final int RUNS = 4000;

    // With the 19 that look at the state behind each, and the joints ahead, these stay within the 512 of a room.
    private static final int CALLS = 25;

    private static long seed;

    public static void main(String[] args) {
        for (int run = 0; run < RUNS; run++) {
            seed = run * 7919L + 1;
            CHECK.promise("run " + run);
            run(run % 4 == 0);
        }
        CHECK.end("ModelTest");
    }

    /** The same numbers for every run of the tests. */
    private static int from(int low, int high) {
        seed = seed * 6364136223846793005L + 1442695040888963407L;
        return low + (int) Math.floorMod(seed >>> 33, (long) high - low + 1);
    }

    private static void run(boolean wide) {
        ArmRoom room = new ArmRoom();
        Model model = new Model();
        int joints = from(0, 5);
        for (int joint = 0; joint < joints; joint++) {
            addJoint(room, model, wide ? 100 : joint < 2 ? 20 : 4);
        }
        for (int call = 0; call < CALLS; call++) {
            anyCall(room, model);
            sameState(room, model);
        }
    }

    private static void addJoint(ArmRoom room, Model model, int widest) {
        int kind = from(0, 1);
        int least = kind == 0 ? -32 : 0;
        int most = kind == 0 ? 32 : 100;
        int low = from(least, most);
        int high = from(low, Math.min(most, low + widest));
        int length = from(0, 3) == 0 ? 0 : from(0, 200);
        same("joint", model.size() < 5 ? "" : "full", new int[] {kind, length, low, high},
                () -> room.joint(kind, length, low, high), () -> model.joint(kind, length, low, high));
    }

    private static void same(String name, String more, int[] args, Check.Call call, Check.Call due) {
        CHECK.tell(name + Arrays.toString(args) + more, Check.outcome(call), Check.outcome(due));
    }

    private static void anyCall(ArmRoom room, Model model) {
        int which = from(0, 17);
        if (which < 5) {
            poseCall(which, room, model);
        } else if (which < 11) {
            goalCall(which, room, model);
        } else {
            branchCall(which, room, model);
        }
    }

    private static void poseCall(int which, ArmRoom room, Model model) {
        int joint = from(-1, 5);
        int what = from(-1, 3);
        if (which == 0 && from(0, 5) == 0) {
            addJoint(room, model, 3);
        } else if (which == 1) {
            int[] wild = {from(-1, 2), from(-1, 201), from(-33, 5), from(-2, 101)};
            if (model.size() > 3 || from(0, 3) == 0) {
                same("joint", "", wild, () -> room.joint(wild[0], wild[1], wild[2], wild[3]),
                        () -> model.joint(wild[0], wild[1], wild[2], wild[3]));
            }
        } else if (which == 2) {
            same("moves", "", new int[] {joint, what}, () -> room.moves(joint, what), () -> model.moves(joint, what));
        } else {
            boolean there = joint >= 0 && joint < model.size();
            int value = there ? from(model.low(joint) - 1, model.high(joint) + 1) : from(-40, 110);
            same("set", "", new int[] {joint, value}, () -> room.set(joint, value), () -> model.set(joint, value));
        }
    }

    private static void goalCall(int which, ArmRoom room, Model model) {
        if (which < 8) {
            // A goal near where the tip may come, or at the tip, or anywhere.
            int edge = which == 5 ? 1000003 : which == 6 ? 300000 : 8000;
            int x = from(-edge, edge) + (which == 7 ? (int) model.tip(0) : 0);
            int y = from(-edge, edge) + (which == 7 ? (int) model.tip(1) : 0);
            same("goal", "", new int[] {x, y}, () -> room.goal(x, y), () -> model.goal(x, y));
        } else {
            int most = which == 8 ? from(-1, 202) : from(1, 4);
            same("steps", "", new int[] {most}, () -> room.steps(most), () -> model.steps(most));
        }
    }

    private static void branchCall(int which, ArmRoom room, Model model) {
        int rank = from(0, 9) == 0 ? from(-1, 10) : from(0, 5);
        int by = from(0, 9) == 0 ? from(-1, 3) : from(0, 2);
        int joint = model.size() == 0 || from(0, 9) == 0 ? from(-1, 5) : from(0, model.size() - 1);
        if (which == 11) {
            int edge = from(0, 2) == 0 ? 100002 : 20000;
            int slack = from(-2, edge);
            same("slack", "", new int[] {slack}, () -> room.slack(slack), () -> model.slack(slack));
        } else if (which == 12) {
            same("branches", "", new int[] {}, room::branches, model::branches);
        } else if (which == 13) {
            same("take", "", new int[] {rank, by}, () -> room.take(rank, by), () -> model.take(rank, by));
        } else {
            same("branch", "", new int[] {rank, by, joint},
                    () -> room.branch(rank, by, joint), () -> model.branch(rank, by, joint));
        }
    }

    private static void sameState(ArmRoom room, Model model) {
        for (int joint = 0; joint <= 5; joint++) {
            int number = joint;
            same("value", "", new int[] {joint}, () -> room.value(number), () -> model.value(number));
        }
        for (int what = -1; what <= 3; what++) {
            int told = what;
            same("tip", "", new int[] {what}, () -> room.tip(told), () -> model.tip(told));
            same("tipAnew", "", new int[] {what}, () -> room.tipAnew(told), () -> model.tip(told));
        }
        same("far", "", new int[] {}, room::far, model::far);
        same("freedom", "", new int[] {}, room::freedom, model::freedom);
        same("hindrance", "", new int[] {}, room::hindrance, model::hindrance);
    }
}
