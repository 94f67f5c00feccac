/** Promises 9 to 12 at the edges that their sentences name. */
public final class GoalEdgesTest {
    private static final Class<IllegalArgumentException> ARGUMENT = IllegalArgumentException.class;
    private static final int TURN = ArmRoom.TURN;
    private static final int SLIDE = ArmRoom.SLIDE;
    private static final int LEAST = Integer.MIN_VALUE;
    private static final int MOST = Integer.MAX_VALUE;

    private static final Check CHECK = new Check();

    public static void main(String[] args) {
        goalRange();
        goalPastInts();
        farOfEachSide();
        stepsMost();
        stepsWithoutAny();
        stepsBegin();
        stepsHeld();
        stepsIfLessFar();
        stepsLeastFar();
        stepsHalves();
        stepsEnd();
        stepsAmongEquals();
        stepsOfFive();
        hindranceWithoutJoints();
        hindranceAtTheWidestLimits();
        hindranceWithin();
        hindranceOfOneValue();
        hindranceByOne();
        hindranceLessFar();
        hindranceLowest();
        CHECK.end("GoalEdgesTest");
    }

    private static ArmRoom slideAt(int value) {
        ArmRoom room = Arms.of(new int[] {SLIDE, 0, 0, 100});
        room.set(0, value);
        return room;
    }

    private static void goalRange() {
        CHECK.promise("9: x and y, -1000000 to 1000000");
        ArmRoom room = new ArmRoom();
        CHECK.due("goal(1000000, 0)", room.goal(1000000, 0), 1000000000000L);
        CHECK.due("goal(-1000000, 1)", room.goal(-1000000, 1), 1000000000001L);
        CHECK.due("goal(2, 1000000)", room.goal(2, 1000000), 1000000000004L);
        CHECK.due("goal(3, -1000000)", room.goal(3, -1000000), 1000000000009L);
        CHECK.due("goal(0, 0)", room.goal(0, 0), 0);
        CHECK.due("goal(-3, 4)", room.goal(-3, 4), 25);
        CHECK.refused("goal(1000001, 0)", ARGUMENT, () -> room.goal(1000001, 0));
        CHECK.due("far() behind it", room.far(), 25);
        CHECK.refused("goal(-1000001, 0)", ARGUMENT, () -> room.goal(-1000001, 0));
        CHECK.due("far() behind it", room.far(), 25);
        CHECK.refused("goal(0, 1000001)", ARGUMENT, () -> room.goal(0, 1000001));
        CHECK.due("far() behind it", room.far(), 25);
        CHECK.refused("goal(0, -1000001)", ARGUMENT, () -> room.goal(0, -1000001));
        CHECK.due("far() behind it", room.far(), 25);
        CHECK.refused("goal(least, 0)", ARGUMENT, () -> room.goal(LEAST, 0));
        CHECK.refused("goal(0, least)", ARGUMENT, () -> room.goal(0, LEAST));
        CHECK.refused("goal(greatest, 0)", ARGUMENT, () -> room.goal(MOST, 0));
        CHECK.refused("goal(0, greatest)", ARGUMENT, () -> room.goal(0, MOST));
        CHECK.due("far() behind all", room.far(), 25);
    }

    private static void goalPastInts() {
        CHECK.promise("9: how far, from the longest arm to the farthest goals");
        int[] slide = {SLIDE, 200, 100, 100};
        ArmRoom room = Arms.of(slide, slide, slide, slide, slide);
        CHECK.due("goal(-1000000, 1000000)", room.goal(-1000000, 1000000), 2500000L * 2500000 + 1000000000000L);
        CHECK.due("goal(-1000000, -1000000)", room.goal(-1000000, -1000000), 2500000L * 2500000 + 1000000000000L);
        CHECK.due("goal(1000000, 0)", room.goal(1000000, 0), 500000L * 500000);
        ArmRoom upright = Arms.of(new int[] {TURN, 0, -16, 16}, slide, slide, slide, slide);
        upright.set(0, 16);
        CHECK.due("goal(0, -1000000)", upright.goal(0, -1000000), 2200000L * 2200000);
        upright.set(0, -16);
        CHECK.due("far()", upright.far(), 200000L * 200000);
    }

    private static void farOfEachSide() {
        CHECK.promise("10: the square of how far x is, and of how far y is, together");
        ArmRoom room = Arms.of(new int[] {TURN, 7, 8, 8});
        int[][] rows = {
            {0, 0, 0}, {1, 0, 1}, {-1, 0, 1}, {0, 1, 1}, {0, -1, 1}, {3, 4, 25}, {-3, -4, 25}, {3, -4, 25}, {-4, 3, 25}
        };
        for (int[] row : rows) {
            room.goal(7 * 707 + row[0], 7 * 707 + row[1]);
            CHECK.due("far() at " + row[0] + " and " + row[1], room.far(), row[2]);
        }
    }

    private static void stepsMost() {
        CHECK.promise("11: most, 1 to 200; returns how many were done");
        ArmRoom room = slideAt(0);
        room.goal(45000, 0);
        int[] wrong = {0, -1, 201, LEAST, MOST};
        for (int most : wrong) {
            CHECK.refused("steps(" + most + ")", ARGUMENT, () -> room.steps(most));
            CHECK.due("value(0) behind it", room.value(0), 0);
        }
        CHECK.due("steps(1)", room.steps(1), 1);
        CHECK.due("value(0)", room.value(0), 8);
        // In all 8 steps: 8, 16, 24, 32, 40, 48, 44, 45.
        CHECK.due("steps(6), one fewer than are left", room.steps(6), 6);
        CHECK.due("value(0)", room.value(0), 44);
        CHECK.due("steps(1), as many as are left", room.steps(1), 1);
        CHECK.due("value(0)", room.value(0), 45);
        CHECK.due("steps(1), none being left", room.steps(1), 0);
        manySteps();
    }

    /** Arms on which a turn and the slides press one another on, a little at a time. */
    private static void manySteps() {
        int[] slide = {SLIDE, 110, 0, 100};
        ArmRoom room = Arms.of(slide, new int[] {SLIDE, 90, 0, 100}, new int[] {TURN, 190, -32, 32});
        room.goal(198000, -38000);
        CHECK.due("steps(199) of 200", room.steps(199), 199);
        room.set(0, 0);
        room.set(1, 0);
        room.set(2, 0);
        CHECK.due("steps(200) of 200", room.steps(200), 200);
        CHECK.due("steps(200) of none", room.steps(200), 0);
        ArmRoom more = Arms.of(new int[] {SLIDE, 70, 0, 100}, new int[] {TURN, 170, -32, 32},
                new int[] {SLIDE, 150, 0, 100});
        more.goal(-277000, -104000);
        CHECK.due("steps(200) of 201", more.steps(200), 200);
        CHECK.due("steps(200) of the one left", more.steps(200), 1);
    }

    private static void stepsWithoutAny() {
        CHECK.promise("11: without joints, at the goal, and with one pose alone");
        ArmRoom room = new ArmRoom();
        room.goal(500000, 0);
        CHECK.due("steps(200) without joints", room.steps(200), 0);
        ArmRoom there = slideAt(45);
        there.goal(45000, 0);
        CHECK.due("steps(200) at the goal", there.steps(200), 0);
        CHECK.due("value(0) at the goal", there.value(0), 45);
        ArmRoom one = Arms.of(new int[] {SLIDE, 5, 7, 7}, new int[] {TURN, 5, -3, -3});
        one.goal(500000, 0);
        CHECK.due("steps(200) with one pose", one.steps(200), 0);
        CHECK.due("value(0) with one pose", one.value(0), 7);
        CHECK.due("value(1) with one pose", one.value(1), -3);
    }

    private static void stepsBegin() {
        CHECK.promise("11: the stride is 8 as a call of steps() begins");
        ArmRoom room = slideAt(0);
        room.goal(1000, 0);
        CHECK.due("steps(200), by a stride of 1", room.steps(200), 1);
        CHECK.due("value(0)", room.value(0), 1);
        room.goal(50000, 0);
        CHECK.due("steps(1), by 8 again", room.steps(1), 1);
        CHECK.due("value(0)", room.value(0), 9);
        room.goal(0, 0);
        CHECK.due("steps(1), by 8 back", room.steps(1), 1);
        CHECK.due("value(0)", room.value(0), 1);
    }

    private static void stepsHeld() {
        CHECK.promise("11: each held to its limits");
        ArmRoom room = slideAt(3);
        room.goal(-900000, 0);
        CHECK.due("steps(200) to 0", room.steps(200), 1);
        CHECK.due("value(0)", room.value(0), 0);
        CHECK.due("steps(200) at 0", room.steps(200), 0);
        room.set(0, 93);
        room.goal(900000, 0);
        CHECK.due("steps(200) to 100", room.steps(200), 1);
        CHECK.due("value(0)", room.value(0), 100);
        CHECK.due("steps(200) at 100", room.steps(200), 0);
        ArmRoom turn = Arms.of(new int[] {TURN, 100, -32, 32});
        turn.set(0, 25);
        turn.goal(-100000, 0);
        CHECK.due("steps(200) of a turn to 32", turn.steps(200), 1);
        CHECK.due("value(0) of a turn at 32", turn.value(0), 32);
        turn.set(0, -25);
        CHECK.due("steps(200) of a turn to -32", turn.steps(200), 1);
        CHECK.due("value(0) of a turn at -32", turn.value(0), -32);
        ArmRoom narrow = Arms.of(new int[] {TURN, 100, -3, 5});
        narrow.goal(0, 100000);
        CHECK.due("steps(200) to the high limit", narrow.steps(200), 1);
        CHECK.due("value(0) at the high limit", narrow.value(0), 5);
        narrow.goal(0, -100000);
        CHECK.due("steps(200) to the low limit", narrow.steps(200), 1);
        CHECK.due("value(0) at the low limit", narrow.value(0), -3);
    }

    private static void stepsIfLessFar() {
        CHECK.promise("11: is taken, if it is less far than that of now");
        ArmRoom room = slideAt(0);
        room.goal(4000, 0);
        CHECK.due("steps(200), 8 being as far", room.steps(200), 1);
        CHECK.due("value(0)", room.value(0), 4);
        room.goal(4500, 0);
        CHECK.due("steps(200), 5 being as far", room.steps(200), 0);
        CHECK.due("value(0)", room.value(0), 4);
        room.goal(4501, 0);
        CHECK.due("steps(200), 5 being less far", room.steps(200), 1);
        CHECK.due("value(0)", room.value(0), 5);
        room.goal(4499, 0);
        CHECK.due("steps(200), 4 being less far", room.steps(200), 1);
        CHECK.due("value(0)", room.value(0), 4);
    }

    private static void stepsLeastFar() {
        CHECK.promise("11: the pose that is least far from the goal of these");
        ArmRoom last = Arms.of(new int[] {SLIDE, 0, 0, 6}, new int[] {SLIDE, 0, 0, 7}, new int[] {SLIDE, 0, 0, 8});
        last.goal(20000, 0);
        CHECK.due("steps(1)", last.steps(1), 1);
        CHECK.due("value(0)", last.value(0), 0);
        CHECK.due("value(1)", last.value(1), 0);
        CHECK.due("value(2)", last.value(2), 8);
        ArmRoom more = Arms.of(new int[] {TURN, 100, -32, 32});
        // Less by 8 is less far too, more by 8 least far.
        more.goal(-100000, 1000);
        CHECK.due("steps(1) of a turn", more.steps(1), 1);
        CHECK.due("value(0) of a turn", more.value(0), 8);
    }

    private static void stepsHalves() {
        CHECK.promise("11: if none is less far, the stride becomes a half of it; changing it is no step");
        ArmRoom room = slideAt(0);
        room.goal(10900, 0);
        CHECK.due("steps(3)", room.steps(3), 3);
        CHECK.due("value(0) by 8, 4 and -2", room.value(0), 10);
        room.set(0, 0);
        CHECK.due("steps(200)", room.steps(200), 4);
        CHECK.due("value(0) by 8, 4, -2 and 1", room.value(0), 11);
        int[][] rows = {{8, 8}, {4, 4}, {2, 2}, {1, 1}, {7, 8}, {5, 8}, {3, 4}, {6, 8}};
        for (int[] row : rows) {
            room.set(0, 0);
            room.goal(row[0] * 1000, 0);
            CHECK.due("steps(1) to " + row[0], room.steps(1), 1);
            CHECK.due("value(0)", room.value(0), row[1]);
        }
    }

    private static void stepsEnd() {
        CHECK.promise("11: with a stride of 1 the steps end");
        ArmRoom room = Arms.of(new int[] {TURN, 100, -32, 32}, new int[] {SLIDE, 10, 0, 100},
                new int[] {SLIDE, 180, 0, 100});
        room.goal(3000, 1000);
        // At 5 neither 4 nor 6 is less far, but 3 is: by a stride of 2, in the next call.
        CHECK.due("steps(200)", room.steps(200), 3);
        CHECK.due("value(0)", room.value(0), 5);
        CHECK.due("steps(200) again", room.steps(200), 1);
        CHECK.due("value(0)", room.value(0), 3);
        CHECK.due("steps(200) at the end", room.steps(200), 0);
    }

    private static void stepsAmongEquals() {
        CHECK.promise("11: of several the lowest joint, less ahead of more");
        int[] slide = {SLIDE, 0, 0, 100};
        ArmRoom alike = Arms.of(slide, slide, slide, slide, slide);
        alike.goal(100000, 0);
        CHECK.due("steps(1)", alike.steps(1), 1);
        CHECK.due("value(0) of five alike", alike.value(0), 8);
        alike.set(0, 100);
        alike.goal(150000, 0);
        CHECK.due("steps(1), 0 being at its limit", alike.steps(1), 1);
        CHECK.due("value(1) of five alike", alike.value(1), 8);
        CHECK.due("value(4) of five alike", alike.value(4), 0);
        ArmRoom either = Arms.of(new int[] {TURN, 100, -32, 32});
        either.goal(-100000, 0);
        CHECK.due("steps(1) of a turn", either.steps(1), 1);
        CHECK.due("value(0), less ahead of more", either.value(0), -8);
        ArmRoom across = Arms.of(slide, new int[] {TURN, 0, 32, 32}, slide);
        across.set(2, 50);
        across.goal(0, 0);
        CHECK.due("steps(1) of slides against one another", across.steps(1), 1);
        CHECK.due("value(0), more of 0 ahead of less of 2", across.value(0), 8);
        CHECK.due("value(2)", across.value(2), 50);
    }

    private static void stepsOfFive() {
        CHECK.promise("11: each joint is looked at, the last of five too");
        int[] fixed = {TURN, 10, 0, 0};
        ArmRoom room = Arms.of(fixed, fixed, fixed, fixed, new int[] {SLIDE, 0, 0, 100});
        room.goal(60000, 0);
        // By 8 to 16, where 24 is as far; then by 4.
        CHECK.due("steps(200)", room.steps(200), 3);
        CHECK.due("value(4)", room.value(4), 20);
        CHECK.due("far()", room.far(), 0);
    }

    private static void hindranceWithoutJoints() {
        CHECK.promise("12: NONE without one");
        ArmRoom room = new ArmRoom();
        CHECK.due("hindrance() at the goal", room.hindrance(), -1);
        room.goal(500000, 0);
        CHECK.due("hindrance() far from it", room.hindrance(), -1);
        CHECK.due("NONE", ArmRoom.NONE, -1);
    }

    private static void hindranceAtTheWidestLimits() {
        CHECK.promise("12: beyond the widest limits too");
        ArmRoom slide = slideAt(100);
        slide.goal(101000, 0);
        CHECK.due("hindrance() of a slide at 100", slide.hindrance(), 0);
        slide.set(0, 99);
        CHECK.due("hindrance() of a slide at 99", slide.hindrance(), -1);
        slide.set(0, 0);
        CHECK.due("hindrance() of a slide at 0, towards 100", slide.hindrance(), -1);
        slide.goal(-1000, 0);
        CHECK.due("hindrance() of a slide at 0, below it", slide.hindrance(), 0);
        slide.set(0, 1);
        CHECK.due("hindrance() of a slide at 1", slide.hindrance(), -1);
        ArmRoom turn = Arms.of(new int[] {TURN, 100, -32, 32});
        turn.goal(-99500, -9800);
        turn.set(0, 32);
        CHECK.due("hindrance() of a turn at 32", turn.hindrance(), 0);
        turn.set(0, -32);
        CHECK.due("hindrance() of a turn at -32, where more leads there", turn.hindrance(), -1);
        turn.goal(-99500, 9800);
        CHECK.due("hindrance() of a turn at -32", turn.hindrance(), 0);
        turn.set(0, 32);
        CHECK.due("hindrance() of a turn at 32, where less leads there", turn.hindrance(), -1);
    }

    private static void hindranceWithin() {
        CHECK.promise("12: beyond its limits, so not one below them");
        ArmRoom room = Arms.of(new int[] {SLIDE, 0, 10, 20});
        room.goal(900000, 0);
        CHECK.due("hindrance() at the low limit", room.hindrance(), -1);
        room.set(0, 19);
        CHECK.due("hindrance() one below the high limit", room.hindrance(), -1);
        room.set(0, 20);
        CHECK.due("hindrance() at the high limit", room.hindrance(), 0);
        room.goal(-900000, 0);
        CHECK.due("hindrance() at the high limit, for less", room.hindrance(), -1);
        room.set(0, 11);
        CHECK.due("hindrance() one above the low limit", room.hindrance(), -1);
        room.set(0, 10);
        CHECK.due("hindrance() at the low limit, for less", room.hindrance(), 0);
    }

    private static void hindranceOfOneValue() {
        CHECK.promise("12: more by 1, or less by 1, where the limits are one");
        ArmRoom room = Arms.of(new int[] {SLIDE, 0, 10, 10});
        room.goal(900000, 0);
        CHECK.due("hindrance() for more", room.hindrance(), 0);
        room.goal(-900000, 0);
        CHECK.due("hindrance() for less", room.hindrance(), 0);
        room.goal(10000, 0);
        CHECK.due("hindrance() at the goal", room.hindrance(), -1);
        room.goal(10000, 900000);
        CHECK.due("hindrance() beside it", room.hindrance(), -1);
    }

    private static void hindranceByOne() {
        CHECK.promise("12: by 1");
        ArmRoom room = Arms.of(new int[] {SLIDE, 0, 10, 20});
        room.goal(9000, 0);
        CHECK.due("hindrance(), 2 being as far as none", room.hindrance(), 0);
        room.set(0, 20);
        room.goal(21000, 0);
        CHECK.due("hindrance(), 2 being as far as none", room.hindrance(), 0);
        CHECK.due("value(0), still", room.value(0), 20);
        CHECK.due("far(), still", room.far(), 1000000);
    }

    private static void hindranceLessFar() {
        CHECK.promise("12: it would be less far");
        ArmRoom room = Arms.of(new int[] {SLIDE, 0, 10, 20});
        room.goal(9500, 0);
        CHECK.due("hindrance() with as far by less", room.hindrance(), -1);
        room.goal(9499, 0);
        CHECK.due("hindrance() with less far by less", room.hindrance(), 0);
        room.set(0, 20);
        room.goal(20500, 0);
        CHECK.due("hindrance() with as far by more", room.hindrance(), -1);
        room.goal(20501, 0);
        CHECK.due("hindrance() with less far by more", room.hindrance(), 0);
        ArmRoom still = Arms.of(new int[] {TURN, 0, 5, 5});
        still.goal(900000, 0);
        CHECK.due("hindrance() of a turn that moves nothing", still.hindrance(), -1);
    }

    private static void hindranceLowest() {
        CHECK.promise("12: the lowest one of those");
        int[] slide = {SLIDE, 0, 0, 10};
        ArmRoom room = Arms.of(slide, slide, slide, slide, slide);
        room.goal(900000, 0);
        CHECK.due("hindrance() of none", room.hindrance(), -1);
        for (int joint = 4; joint >= 0; joint--) {
            room.set(joint, 10);
            CHECK.due("hindrance() of " + joint + " and all behind", room.hindrance(), joint);
        }
        for (int joint = 0; joint < 5; joint++) {
            room.set(joint, 9);
            CHECK.due("hindrance() of all behind " + joint, room.hindrance(), joint < 4 ? joint + 1 : -1);
        }
        ArmRoom both = Arms.of(slide, new int[] {TURN, 0, 32, 32}, slide);
        both.goal(-900000, 0);
        both.set(2, 10);
        CHECK.due("hindrance(), less of 0 ahead of more of 2", both.hindrance(), 0);
        both.set(0, 1);
        CHECK.due("hindrance(), more of 2", both.hindrance(), 2);
        both.goal(900000, 0);
        both.set(0, 10);
        both.set(2, 0);
        CHECK.due("hindrance(), more of 0 ahead of less of 2", both.hindrance(), 0);
        both.set(0, 9);
        CHECK.due("hindrance(), less of 2", both.hindrance(), 2);
    }
}
