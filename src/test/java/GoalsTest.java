/** Promises 9 to 12: goals. */
public final class GoalsTest {
    private static final Class<IllegalArgumentException> ARGUMENT = IllegalArgumentException.class;

    private static final Check CHECK = new Check();

    public static void main(String[] args) {
        goal();
        far();
        steps();
        stepsByStrides();
        stepsAmongEquals();
        hindrance();
        CHECK.end("GoalsTest");
    }

    private static void goal() {
        CHECK.promise("9 goal");
        ArmRoom room = new ArmRoom();
        CHECK.due("goal(3, 4)", room.goal(3, 4), 25);
        CHECK.due("goal(-1000000, 1000000)", room.goal(-1000000, 1000000), 2000000000000L);
        room.joint(ArmRoom.TURN, 100, -32, 32);
        CHECK.due("goal(1000000, -1000000)", room.goal(1000000, -1000000), 900000L * 900000L + 1000000000000L);
        CHECK.due("goal(100000, 7)", room.goal(100000, 7), 49);
        int[][] wrong = {
            {1000001, 0}, {-1000001, 0}, {0, 1000001}, {0, -1000001},
            {Integer.MIN_VALUE, 0}, {0, Integer.MIN_VALUE}, {Integer.MAX_VALUE, Integer.MAX_VALUE}
        };
        for (int[] row : wrong) {
            CHECK.refused("goal" + java.util.Arrays.toString(row), ARGUMENT, () -> room.goal(row[0], row[1]));
        }
        CHECK.due("far() after refusals", room.far(), 49);
    }

    private static void far() {
        CHECK.promise("10 far");
        ArmRoom room = new ArmRoom();
        CHECK.due("far() of a new one", room.far(), 0);
        room.joint(ArmRoom.SLIDE, 200, 0, 100);
        CHECK.due("far() with a joint", room.far(), 200000L * 200000L);
        room.set(0, 100);
        CHECK.due("far() slid on", room.far(), 300000L * 300000L);
        room.goal(300001, -2);
        CHECK.due("far() of a near goal", room.far(), 5);
        CHECK.due("far() again", room.far(), 5);
    }

    private static void steps() {
        CHECK.promise("11 steps");
        ArmRoom room = new ArmRoom();
        CHECK.due("steps(1) without joints", room.steps(1), 0);
        room.joint(ArmRoom.SLIDE, 0, 0, 100);
        room.goal(45000, 0);
        CHECK.due("steps(1)", room.steps(1), 1);
        CHECK.due("value(0) after a stride", room.value(0), 8);
        CHECK.due("steps(2)", room.steps(2), 2);
        CHECK.due("value(0) after three", room.value(0), 24);
        // 32, 40, 48 (a miss of 3, down from 5); then 44 by 4 (a miss of 1), and 45 by 1.
        CHECK.due("steps(200)", room.steps(200), 5);
        CHECK.due("value(0) at the end", room.value(0), 45);
        CHECK.due("steps(200) there", room.steps(200), 0);
        CHECK.refused("steps(0)", ARGUMENT, () -> room.steps(0));
        CHECK.refused("steps(201)", ARGUMENT, () -> room.steps(201));
        CHECK.refused("steps(-1)", ARGUMENT, () -> room.steps(-1));
        CHECK.refused("steps(least)", ARGUMENT, () -> room.steps(Integer.MIN_VALUE));
        CHECK.due("value(0) after refusals", room.value(0), 45);
    }

    private static void stepsByStrides() {
        CHECK.promise("11 steps, by strides and limits");
        ArmRoom room = new ArmRoom();
        room.joint(ArmRoom.SLIDE, 0, 0, 13);
        room.goal(90000, 0);
        CHECK.due("steps(200) to the limit", room.steps(200), 2);
        CHECK.due("value(0) at the limit", room.value(0), 13);
        room.goal(-90000, 0);
        CHECK.due("steps(1) back", room.steps(1), 1);
        CHECK.due("value(0) back", room.value(0), 5);
        CHECK.due("steps(200) to the low limit", room.steps(200), 1);
        CHECK.due("value(0) at the low limit", room.value(0), 0);
        room.goal(7000, 0);
        CHECK.due("steps(1) past the goal", room.steps(1), 1);
        CHECK.due("value(0) past the goal", room.value(0), 8);
        CHECK.due("steps(1) with a stride that is halved thrice", room.steps(1), 1);
        CHECK.due("value(0) at the goal", room.value(0), 7);
        room.set(0, 0);
        room.goal(2000, 0);
        CHECK.due("steps(200) by a stride of 2", room.steps(200), 1);
        CHECK.due("value(0) by a stride of 2", room.value(0), 2);
        room.goal(9000, 0);
        // A stride of 8 leads from 2 to 10; then 1 back. The stride that a call has come to does not stay.
        CHECK.due("steps(1) by 8 anew", room.steps(1), 1);
        CHECK.due("value(0) by 8 anew", room.value(0), 10);
    }

    private static void stepsAmongEquals() {
        CHECK.promise("11 steps, of several the lowest joint, less ahead of more");
        ArmRoom slides = new ArmRoom();
        slides.joint(ArmRoom.SLIDE, 0, 0, 100);
        slides.joint(ArmRoom.SLIDE, 0, 0, 100);
        slides.goal(20000, 0);
        slides.steps(1);
        CHECK.due("value(0) of two slides", slides.value(0), 8);
        CHECK.due("value(1) of two slides", slides.value(1), 0);
        ArmRoom turn = new ArmRoom();
        turn.joint(ArmRoom.TURN, 100, -32, 32);
        turn.goal(-100000, 0);
        turn.steps(1);
        CHECK.due("value(0) of a turn that may go either way", turn.value(0), -8);
        ArmRoom best = new ArmRoom();
        best.joint(ArmRoom.SLIDE, 0, 0, 4);
        best.joint(ArmRoom.SLIDE, 0, 0, 100);
        best.goal(20000, 0);
        best.steps(1);
        CHECK.due("value(0) where the other comes nearer", best.value(0), 0);
        CHECK.due("value(1) where it comes nearer", best.value(1), 8);
    }

    private static void hindrance() {
        CHECK.promise("12 hindrance");
        ArmRoom room = new ArmRoom();
        room.goal(500000, 0);
        CHECK.due("hindrance() without joints", room.hindrance(), ArmRoom.NONE);
        room.joint(ArmRoom.TURN, 10, 0, 5);
        CHECK.due("hindrance() where a turn would not help", room.hindrance(), -1);
        room.joint(ArmRoom.SLIDE, 10, 0, 5);
        CHECK.due("hindrance() within the limits", room.hindrance(), -1);
        room.set(1, 5);
        CHECK.due("hindrance() at the high limit", room.hindrance(), 1);
        room.joint(ArmRoom.SLIDE, 10, 5, 5);
        CHECK.due("hindrance() of two", room.hindrance(), 1);
        room.set(1, 4);
        CHECK.due("hindrance() of the other", room.hindrance(), 2);
        room.goal(-500000, 0);
        CHECK.due("hindrance() at the low limit of a turn", room.hindrance(), 0);
        room.set(0, 1);
        CHECK.due("hindrance() at the low limit of a slide", room.hindrance(), 2);
        room.goal(0, 500000);
        room.set(0, 4);
        CHECK.due("hindrance() where the turn may go on", room.hindrance(), 2);
        room.set(0, 5);
        CHECK.due("hindrance() where it may not", room.hindrance(), 0);
        CHECK.due("value(0), still", room.value(0), 5);
        atTheGoal();
    }

    private static void atTheGoal() {
        ArmRoom room = new ArmRoom();
        room.joint(ArmRoom.TURN, 0, 0, 0);
        room.goal(77, 0);
        CHECK.due("hindrance() of no length", room.hindrance(), -1);
        room.joint(ArmRoom.SLIDE, 10, 0, 0);
        room.goal(10000, 0);
        CHECK.due("hindrance() at the goal", room.hindrance(), -1);
        room.goal(10500, 0);
        CHECK.due("hindrance() where as far is not less far", room.hindrance(), -1);
        room.goal(10501, 0);
        CHECK.due("hindrance() where it is less far", room.hindrance(), 1);
    }
}
