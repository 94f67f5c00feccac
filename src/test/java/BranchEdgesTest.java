/** Promises 13 to 16 at the edges that their sentences name. */
public final class BranchEdgesTest {
    private static final Class<IndexOutOfBoundsException> INDEX = IndexOutOfBoundsException.class;
    private static final Class<IllegalArgumentException> ARGUMENT = IllegalArgumentException.class;
    private static final Class<IllegalStateException> STATE = IllegalStateException.class;
    private static final int TURN = ArmRoom.TURN;
    private static final int SLIDE = ArmRoom.SLIDE;
    private static final int LEAST = Integer.MIN_VALUE;
    private static final int MOST = Integer.MAX_VALUE;

    private static final Check CHECK = new Check();

    public static void main(String[] args) {
        slackRange();
        slackOfEachSide();
        slackOfNothing();
        slackFarOut();
        branchesWithoutJoints();
        branchesWithinTheLimits();
        branchesOfFive();
        branchesUpTo40000();
        branchesBeyond40000();
        rankAndBranches();
        rankOfNone();
        byRange();
        joint();
        byFar();
        byWay();
        byHeading();
        headingTheShorterWay();
        byTheirValues();
        takeRanks();
        takeOfFive();
        takeOfMany();
        CHECK.end("BranchEdgesTest");
    }

    /** The values that a joint has in the first branches. */
    private static void ranked(String name, ArmRoom room, int by, int joint, int... due) {
        for (int rank = 0; rank < due.length; rank++) {
            String call = "branch(" + rank + ", " + by + ", " + joint + ") " + name;
            CHECK.due(call, room.branch(rank, by, joint), due[rank]);
        }
    }

    private static void slackRange() {
        CHECK.promise("13: slack, 0 to 100000; returns the one before");
        ArmRoom room = Arms.slides(101);
        CHECK.due("slack(0)", room.slack(0), 10000);
        CHECK.due("branches() by 0", room.branches(), 1);
        CHECK.refused("slack(-1)", ARGUMENT, () -> room.slack(-1));
        CHECK.refused("slack(100001)", ARGUMENT, () -> room.slack(100001));
        CHECK.refused("slack(least)", ARGUMENT, () -> room.slack(LEAST));
        CHECK.refused("slack(greatest)", ARGUMENT, () -> room.slack(MOST));
        CHECK.due("branches() behind them", room.branches(), 1);
        CHECK.due("slack(100000)", room.slack(100000), 0);
        CHECK.due("branches() by 100000", room.branches(), 101);
        CHECK.due("slack(99999)", room.slack(99999), 100000);
        CHECK.due("branches() by 99999", room.branches(), 100);
        CHECK.due("slack(99999) again", room.slack(99999), 99999);
    }

    private static void slackOfEachSide() {
        CHECK.promise("14: whose x and y are each at most a slack from those of the goal");
        int[][] rows = {
            {0, 0, 1}, {500, 0, 1}, {-500, 0, 1}, {0, 500, 1}, {0, -500, 1},
            {500, 500, 1}, {500, -500, 1}, {-500, 500, 1}, {-500, -500, 1},
            {501, 0, 0}, {-501, 0, 0}, {0, 501, 0}, {0, -501, 0},
            {501, 500, 0}, {501, -500, 0}, {-501, 500, 0}, {-501, -500, 0},
            {500, 501, 0}, {500, -501, 0}, {-500, 501, 0}, {-500, -501, 0}
        };
        for (int heading = -32; heading <= 32; heading += 8) {
            ArmRoom room = Arms.of(new int[] {TURN, 100, heading, heading}, new int[] {SLIDE, 0, 0, 0});
            room.slack(500);
            for (int[] row : rows) {
                room.goal(room.tip(0) + row[0], room.tip(1) + row[1]);
                CHECK.due("branches() at " + heading + ", off by " + row[0] + " and " + row[1],
                        room.branches(), row[2]);
            }
        }
    }

    private static void slackOfNothing() {
        CHECK.promise("14: with a slack of 0, at the goal itself");
        ArmRoom room = Arms.of(new int[] {TURN, 100, -32, 32}, new int[] {TURN, 100, -32, 32});
        room.slack(0);
        CHECK.due("branches() folded", room.branches(), 65 * 2);
        room.goal(200000, 0);
        CHECK.due("branches() stretched", room.branches(), 1);
        room.goal(-200000, 0);
        CHECK.due("branches() stretched back", room.branches(), 2);
        room.goal(200001, 0);
        CHECK.due("branches() beside it in x", room.branches(), 0);
        room.goal(200000, -1);
        CHECK.due("branches() beside it in y", room.branches(), 0);
    }

    private static void slackFarOut() {
        CHECK.promise("14: at the end of the longest arms");
        int[] slide = {SLIDE, 200, 0, 0};
        ArmRoom room = Arms.of(slide, slide, slide, slide, slide);
        room.slack(0);
        room.goal(1000000, 0);
        CHECK.due("branches() at it", room.branches(), 1);
        room.slack(100000);
        room.goal(900000, -100000);
        CHECK.due("branches() at the slack", room.branches(), 1);
        room.goal(899999, 0);
        CHECK.due("branches() past the slack", room.branches(), 0);
        int[] longer = {SLIDE, 200, 0, 100};
        ArmRoom back = Arms.of(new int[] {TURN, 200, -32, 32}, longer, new int[] {SLIDE, 200, 100, 100});
        back.goal(-800000, 0);
        back.slack(0);
        CHECK.due("branches() at the last value", back.branches(), 2);
        back.goal(-700000, 0);
        CHECK.due("branches() at the first value", back.branches(), 2);
        back.goal(-699999, 0);
        CHECK.due("branches() ahead of it", back.branches(), 0);
    }

    private static void branchesWithoutJoints() {
        CHECK.promise("14: 0 without joints");
        ArmRoom room = new ArmRoom();
        CHECK.due("branches() at the goal", room.branches(), 0);
        room.slack(100000);
        CHECK.due("branches() by the greatest slack", room.branches(), 0);
        room.joint(TURN, 0, 0, 0);
        CHECK.due("branches() with one joint of one value", room.branches(), 1);
    }

    private static void branchesWithinTheLimits() {
        CHECK.promise("14: all poses are those with all values within the limits");
        ArmRoom turn = Arms.of(new int[] {TURN, 0, -32, 32});
        CHECK.due("branches() of the widest turn", turn.branches(), 65);
        ArmRoom slide = Arms.of(new int[] {SLIDE, 0, 0, 100});
        slide.goal(50000, 0);
        slide.slack(100000);
        CHECK.due("branches() of the widest slide", slide.branches(), 101);
        ArmRoom some = Arms.of(new int[] {TURN, 0, -5, -3}, new int[] {SLIDE, 0, 7, 10}, new int[] {TURN, 0, 4, 4});
        CHECK.due("branches() of three", some.branches(), 12);
        ranked("of three", some, ArmRoom.HEADING, 0, -3, -3, -3, -3, -4, -4, -4, -4, -5, -5);
        ranked("of three", some, ArmRoom.HEADING, 1, 7, 8, 9, 10, 7, 8, 9, 10, 7, 8);
        ranked("of three", some, ArmRoom.HEADING, 2, 4, 4, 4, 4, 4, 4, 4, 4, 4, 4);
        some.set(0, -5);
        some.set(1, 10);
        CHECK.due("branches() whatever the pose of now is", some.branches(), 12);
    }

    private static void branchesOfFive() {
        CHECK.promise("14: of five joints");
        ArmRoom room = Arms.slides(2, 2, 2, 2, 2);
        CHECK.due("branches() of 32", room.branches(), 32);
        room.slack(0);
        int[] sums = {1, 5, 10, 10, 5, 1};
        for (int sum = 0; sum <= 5; sum++) {
            room.goal(sum * 1000, 0);
            CHECK.due("branches() at " + sum, room.branches(), sums[sum]);
        }
        room.goal(6000, 0);
        CHECK.due("branches() at 6", room.branches(), 0);
        room.goal(-1000, 0);
        CHECK.due("branches() at -1", room.branches(), 0);
        ArmRoom turns = new ArmRoom();
        for (int joint = 0; joint < 5; joint++) {
            turns.joint(TURN, 10, -1, 1);
        }
        turns.slack(0);
        turns.goal(5 * 9950, -5 * 980);
        CHECK.due("branches() of turns along 63", turns.branches(), 1);
        ranked("of turns along 63", turns, ArmRoom.FAR, 0, -1);
        ranked("of turns along 63", turns, ArmRoom.FAR, 4, 0);
    }

    private static void branchesUpTo40000() {
        CHECK.promise("14: they can be gone through, if there are at most 40000");
        ArmRoom room = Arms.slides(100, 100, 4);
        room.slack(0);
        CHECK.due("branches() of 40000", room.branches(), 1);
        room.slack(100000);
        room.goal(101000, 0);
        // By sums of 1 to 201: all but the pose 0, 0, 0, and the greatest sum is 99 + 99 + 3.
        CHECK.due("branches() of 40000 but one", room.branches(), 39999);
        room.slack(0);
        room.goal(201000, 0);
        CHECK.due("branches() at the last of 40000", room.branches(), 1);
        ranked("at the last of 40000", room, ArmRoom.WAY, 0, 99);
        ranked("at the last of 40000", room, ArmRoom.HEADING, 2, 3);
        CHECK.refused("branch(1, 0, 0) of 40000", INDEX, () -> room.branch(1, 0, 0));
        CHECK.refused("take(1, 0) of 40000", INDEX, () -> room.take(1, 0));
        CHECK.due("take(0, 0) of 40000", room.take(0, 0), 0);
        CHECK.due("value(1)", room.value(1), 99);
        ArmRoom five = Arms.slides(8, 10, 10, 10, 5);
        five.slack(100000);
        CHECK.due("branches() of 40000 by five", five.branches(), 40000);
        five.slack(0);
        five.goal(7000 + 9000 + 9000 + 9000 + 4000, 0);
        CHECK.due("branches() at the last by five", five.branches(), 1);
        ranked("at the last by five", five, ArmRoom.FAR, 4, 4);
        int[] turn = {TURN, 0, -24, 25};
        ArmRoom turns = Arms.of(turn, turn, new int[] {SLIDE, 0, 0, 15});
        turns.slack(16000);
        CHECK.due("branches() of 40000 by turns", turns.branches(), 40000);
    }

    private static void branchesBeyond40000() {
        CHECK.promise("14: IllegalStateException if there are more than 40000 poses");
        // 40014 is the least number past 40000 that joints can come to.
        int[][] counts = {{81, 26, 19}, {65, 65, 10}, {100, 100, 4, 2}, {8, 10, 10, 10, 6}, {101, 101, 101, 101, 101}};
        for (int[] row : counts) {
            ArmRoom room = Arms.slides(row);
            CHECK.refused("branches()", STATE, room::branches);
            room.slack(0);
            CHECK.refused("branches() by a slack of 0", STATE, room::branches);
            room.goal(-900000, 0);
            CHECK.refused("branches() where there is none", STATE, room::branches);
        }
        CHECK.due("poses that as an int are below 0", Integer.signum(80 * 80 * 80 * 80 * 84), -1);
        CHECK.refused("branches() of those", STATE, () -> Arms.slides(80, 80, 80, 80, 84).branches());
        CHECK.due("poses that as an int are few", 63 * 83 * 92 * 93 * 96, 7808);
        CHECK.refused("branches() of those", STATE, () -> Arms.slides(63, 83, 92, 93, 96).branches());
        CHECK.refused("branch(0, 0, 0) of those", STATE, () -> Arms.slides(63, 83, 92, 93, 96).branch(0, 0, 0));
        CHECK.refused("take(0, 0) of those", STATE, () -> Arms.slides(63, 83, 92, 93, 96).take(0, 0));
    }

    private static void rankAndBranches() {
        CHECK.promise("15 and 16: rank, 0 to 9; IndexOutOfBoundsException if there is no such branch");
        for (int many = 9; many <= 11; many++) {
            ArmRoom room = Arms.slides(101);
            room.slack((many - 1) * 1000);
            CHECK.due("branches()", room.branches(), many);
            for (int by = 0; by <= 2; by++) {
                int known = by;
                String name = by + ") of " + many;
                CHECK.due("branch(8, 0, " + name, room.branch(8, by, 0), 8);
                CHECK.refused("branch(-1, 0, " + name, INDEX, () -> room.branch(-1, known, 0));
                CHECK.refused("branch(10, 0, " + name, INDEX, () -> room.branch(10, known, 0));
                CHECK.refused("branch(11, 0, " + name, INDEX, () -> room.branch(11, known, 0));
                CHECK.refused("branch(greatest, 0, " + name, INDEX, () -> room.branch(MOST, known, 0));
                CHECK.refused("branch(least, 0, " + name, INDEX, () -> room.branch(LEAST, known, 0));
                CHECK.refused("take(-1, " + name, INDEX, () -> room.take(-1, known));
                CHECK.refused("take(10, " + name, INDEX, () -> room.take(10, known));
                CHECK.refused("take(11, " + name, INDEX, () -> room.take(11, known));
            }
            if (many == 9) {
                CHECK.refused("branch(9, 0, 0) of 9", INDEX, () -> room.branch(9, 0, 0));
                CHECK.refused("take(9, 0) of 9", INDEX, () -> room.take(9, 0));
            } else {
                CHECK.due("branch(9, 0, 0) of " + many, room.branch(9, 0, 0), 9);
                CHECK.due("take(9, 0) of " + many, room.take(9, 0), 81000000);
            }
        }
    }

    private static void rankOfNone() {
        CHECK.promise("15 and 16: where there is no branch, or one alone");
        ArmRoom room = Arms.slides(11);
        room.goal(-500000, 0);
        for (int rank = 0; rank <= 9; rank++) {
            int known = rank;
            CHECK.refused("branch(" + rank + ", 0, 0) of none", INDEX, () -> room.branch(known, 0, 0));
            CHECK.refused("take(" + rank + ", 0) of none", INDEX, () -> room.take(known, 0));
        }
        room.goal(3000, 0);
        room.slack(0);
        CHECK.due("branch(0, 0, 0) of one", room.branch(0, 0, 0), 3);
        for (int rank = 1; rank <= 9; rank++) {
            int known = rank;
            CHECK.refused("branch(" + rank + ", 0, 0) of one", INDEX, () -> room.branch(known, 0, 0));
            CHECK.refused("take(" + rank + ", 0) of one", INDEX, () -> room.take(known, 0));
        }
        CHECK.due("value(0)", room.value(0), 0);
        CHECK.due("take(0, 0) of one", room.take(0, 0), 0);
        ArmRoom empty = new ArmRoom();
        for (int rank = 0; rank <= 9; rank++) {
            int known = rank;
            CHECK.refused("take(" + rank + ", 0) without joints", INDEX, () -> empty.take(known, 0));
            CHECK.refused("branch(" + rank + ", 0, 0) without joints", INDEX, () -> empty.branch(known, 0, 0));
        }
    }

    private static void byRange() {
        CHECK.promise("15 and 16: by, FAR to HEADING; no such branch goes ahead of it");
        ArmRoom room = Arms.slides(3);
        room.slack(1000);
        int[] wrong = {-1, 3, LEAST, MOST};
        for (int by : wrong) {
            CHECK.refused("branch(0, " + by + ", 0)", ARGUMENT, () -> room.branch(0, by, 0));
            CHECK.refused("branch(1, " + by + ", 0)", ARGUMENT, () -> room.branch(1, by, 0));
            CHECK.refused("branch(2, " + by + ", 0)", INDEX, () -> room.branch(2, by, 0));
            CHECK.refused("branch(0, " + by + ", 1)", INDEX, () -> room.branch(0, by, 1));
            CHECK.refused("branch(-1, " + by + ", 0)", INDEX, () -> room.branch(-1, by, 0));
            CHECK.refused("branch(10, " + by + ", 0)", INDEX, () -> room.branch(10, by, 0));
            CHECK.refused("take(1, " + by + ")", ARGUMENT, () -> room.take(1, by));
            CHECK.refused("take(2, " + by + ")", INDEX, () -> room.take(2, by));
            CHECK.refused("take(-1, " + by + ")", INDEX, () -> room.take(-1, by));
            CHECK.refused("take(10, " + by + ")", INDEX, () -> room.take(10, by));
        }
        CHECK.due("FAR", ArmRoom.FAR, 0);
        CHECK.due("WAY", ArmRoom.WAY, 1);
        CHECK.due("HEADING", ArmRoom.HEADING, 2);
        for (int by = 0; by <= 2; by++) {
            ranked("of two", room, by, 0, 0, 1);
        }
    }

    private static void joint() {
        CHECK.promise("15: IndexOutOfBoundsException if there is no such joint");
        ArmRoom room = new ArmRoom();
        for (int joint = 0; joint < 5; joint++) {
            int next = joint;
            CHECK.refused("branch(0, 0, " + joint + ") ahead of it", INDEX, () -> room.branch(0, 0, next));
            room.joint(TURN, 0, joint, joint);
            CHECK.due("branch(0, 0, " + joint + ")", room.branch(0, 0, joint), joint);
        }
        int[] wrong = {-1, 5, LEAST, MOST};
        for (int joint : wrong) {
            CHECK.refused("branch(0, 0, " + joint + ")", INDEX, () -> room.branch(0, 0, joint));
            CHECK.refused("branch(0, 3, " + joint + ")", INDEX, () -> room.branch(0, 3, joint));
            CHECK.refused("branch(10, 0, " + joint + ")", INDEX, () -> room.branch(10, 0, joint));
        }
        ArmRoom many = Arms.slides(81, 26, 19);
        CHECK.refused("branch(0, 0, 3) of many", INDEX, () -> many.branch(0, 0, 3));
        CHECK.refused("branch(0, 0, -1) of many", INDEX, () -> many.branch(0, 0, -1));
        CHECK.refused("branch(0, 3, 3) of many", INDEX, () -> many.branch(0, 3, 3));
    }

    private static void byFar() {
        CHECK.promise("15: by FAR, how far they are from the goal, the least first");
        ArmRoom room = Arms.slides(101);
        room.goal(50400, 0);
        room.set(0, 100);
        ranked("ahead of 50.4", room, ArmRoom.FAR, 0, 50, 51, 49, 52, 48, 53, 47, 54, 46, 55);
        room.goal(50500, 0);
        ranked("at 50.5", room, ArmRoom.FAR, 0, 50, 51, 49, 52, 48, 53, 47, 54, 46, 55);
        room.goal(50501, 0);
        ranked("behind 50.5", room, ArmRoom.FAR, 0, 51, 50, 52, 49, 53, 48, 54, 47, 55, 46);
        ArmRoom turn = Arms.of(new int[] {TURN, 100, -32, 32});
        turn.slack(100000);
        turn.goal(0, -100000);
        ranked("below", turn, ArmRoom.FAR, 0, -16, -17, -15, -18, -14, -19, -13, -20, -12, -21);
    }

    private static void byWay() {
        CHECK.promise("15: by WAY, how far their values are from those of now, added up");
        ArmRoom turn = Arms.of(new int[] {TURN, 0, -32, 32});
        turn.set(0, 32);
        // The values of a turn, so that -32 is 64 from 32 though the direction is the same.
        ranked("from 32", turn, ArmRoom.WAY, 0, 32, 31, 30, 29, 28, 27, 26, 25, 24, 23);
        turn.set(0, -32);
        ranked("from -32", turn, ArmRoom.WAY, 0, -32, -31, -30, -29, -28, -27, -26, -25, -24, -23);
        turn.set(0, -1);
        ranked("from -1", turn, ArmRoom.WAY, 0, -1, -2, 0, -3, 1, -4, 2, -5, 3, -6);
        ArmRoom two = Arms.of(new int[] {TURN, 0, -1, 1}, new int[] {SLIDE, 0, 0, 2});
        two.set(0, 1);
        two.set(1, 1);
        CHECK.due("branches() of two", two.branches(), 9);
        ranked("of two", two, ArmRoom.WAY, 0, 1, 0, 1, 1, -1, 0, 0, -1, -1);
        ranked("of two", two, ArmRoom.WAY, 1, 1, 1, 0, 2, 1, 0, 2, 0, 2);
        ArmRoom five = Arms.slides(2, 2, 2, 2, 2);
        for (int joint = 0; joint < 5; joint++) {
            five.set(joint, 1);
        }
        // 11111; 01111, 10111, 11011, 11101, 11110; 00111, 01011, 01101, 01110.
        ranked("of five", five, ArmRoom.WAY, 4, 1, 1, 1, 1, 1, 0, 1, 1, 1, 0);
        ranked("of five", five, ArmRoom.WAY, 0, 1, 0, 1, 1, 1, 1, 0, 0, 0, 0);
    }

    private static void byHeading() {
        CHECK.promise("15: by HEADING, how many parts their heading is from that of now");
        ArmRoom room = Arms.of(new int[] {TURN, 0, -32, 32});
        room.set(0, -1);
        ranked("from 63", room, ArmRoom.HEADING, 0, -1, -2, 0, -3, 1, -4, 2, -5, 3, -6);
        room.set(0, 0);
        ranked("from 0", room, ArmRoom.HEADING, 0, 0, -1, 1, -2, 2, -3, 3, -4, 4, -5);
        room.set(0, 32);
        ranked("from 32", room, ArmRoom.HEADING, 0, -32, 32, -31, 31, -30, 30, -29, 29, -28, 28);
        room.set(0, 31);
        ranked("from 31", room, ArmRoom.HEADING, 0, 31, -32, 30, 32, -31, 29, -30, 28, -29, 27);
        room.set(0, -31);
        ranked("from 33", room, ArmRoom.HEADING, 0, -31, -32, -30, 32, -29, 31, -28, 30, -27, 29);
        ArmRoom five = new ArmRoom();
        for (int joint = 0; joint < 5; joint++) {
            five.joint(TURN, 0, joint < 4 ? 32 : -32, 32);
        }
        five.set(4, 5);
        ranked("of five", five, ArmRoom.HEADING, 4, 5, 4, 6, 3, 7, 2, 8, 1, 9, 0);
        ArmRoom behind = Arms.of(new int[] {TURN, 0, -32, 32}, new int[] {SLIDE, 0, 0, 0});
        behind.set(0, -32);
        ranked("with a slide behind", behind, ArmRoom.HEADING, 0, -32, 32, -31, 31);
    }

    private static void headingTheShorterWay() {
        CHECK.promise("15: by HEADING, the shorter way round");
        ArmRoom room = Arms.of(new int[] {TURN, 100, -32, 32});
        room.goal(-100000, 0);
        room.slack(20000);
        CHECK.due("branches() about 32", room.branches(), 6);
        ranked("from 0", room, ArmRoom.HEADING, 0, -30, 30, -31, 31, -32, 32);
        room.set(0, 1);
        // 30 is 29 from 1, 31 is 30, 32 is 31; 34 (-30) is 31 and 33 (-31) is 32, the shorter way round.
        ranked("from 1", room, ArmRoom.HEADING, 0, 30, 31, -32, -30, 32, -31);
        room.set(0, -1);
        ranked("from 63", room, ArmRoom.HEADING, 0, -30, -31, -32, 30, 32, 31);
        room.set(0, 2);
        ranked("from 2", room, ArmRoom.HEADING, 0, 30, 31, -32, 32, -31, -30);
    }

    private static void byTheirValues() {
        CHECK.promise("15: of the same by their values, the joint 0 first, the lesser ahead");
        ArmRoom five = Arms.slides(2, 2, 2, 2, 2);
        for (int joint = 0; joint < 5; joint++) {
            five.set(joint, joint % 2);
        }
        for (int joint = 0; joint < 5; joint++) {
            for (int rank = 0; rank <= 9; rank++) {
                String call = "branch(" + rank + ", 2, " + joint + ")";
                CHECK.due(call, five.branch(rank, ArmRoom.HEADING, joint), rank >> (4 - joint) & 1);
            }
        }
        ArmRoom turns = Arms.of(new int[] {TURN, 0, -1, 1}, new int[] {TURN, 0, -1, 1});
        ranked("of nine as far", turns, ArmRoom.FAR, 0, -1, -1, -1, 0, 0, 0, 1, 1, 1);
        ranked("of nine as far", turns, ArmRoom.FAR, 1, -1, 0, 1, -1, 0, 1, -1, 0, 1);
        ArmRoom widest = Arms.of(new int[] {TURN, 0, -32, 32});
        ranked("of 65 as far", widest, ArmRoom.FAR, 0, -32, -31, -30, -29, -28, -27, -26, -25, -24, -23);
    }

    private static void takeRanks() {
        CHECK.promise("16: takes a branch as the pose; returns how far it is from the goal");
        int[] far = {50, 51, 49, 52, 48, 53, 47, 54, 46, 55};
        for (int rank = 0; rank <= 9; rank++) {
            ArmRoom room = Arms.slides(101);
            room.goal(50400, 3);
            long off = far[rank] * 1000 - 50400;
            CHECK.due("take(" + rank + ", FAR)", room.take(rank, ArmRoom.FAR), off * off + 9);
            CHECK.due("value(0)", room.value(0), far[rank]);
            CHECK.due("tip(0)", room.tip(0), far[rank] * 1000);
            CHECK.due("far()", room.far(), off * off + 9);
            CHECK.due("branch(0, WAY, 0)", room.branch(0, ArmRoom.WAY, 0), far[rank]);
        }
        ArmRoom room = Arms.slides(101);
        room.set(0, 60);
        room.goal(50400, 3);
        // Within the slack are 41 to 60.
        CHECK.due("take(9, WAY)", room.take(9, ArmRoom.WAY), 600L * 600 + 9);
        CHECK.due("value(0)", room.value(0), 51);
        CHECK.due("take(9, WAY) from 51", room.take(9, ArmRoom.WAY), 4400L * 4400 + 9);
        CHECK.due("value(0)", room.value(0), 46);
        CHECK.due("take(9, HEADING)", room.take(9, ArmRoom.HEADING), 400L * 400 + 9);
        CHECK.due("value(0)", room.value(0), 50);
        CHECK.due("slack(10000), still", room.slack(10000), 10000);
    }

    private static void takeOfFive() {
        CHECK.promise("16: with five joints");
        ArmRoom room = Arms.slides(6, 6, 6, 6, 6);
        room.slack(0);
        room.goal(24000, 0);
        // One joint has 4, all others 5: first comes the branch with the 4 at joint 0.
        CHECK.due("branches()", room.branches(), 5);
        CHECK.due("take(0, FAR)", room.take(0, ArmRoom.FAR), 0);
        for (int joint = 0; joint < 5; joint++) {
            CHECK.due("value(" + joint + ")", room.value(joint), joint == 0 ? 4 : 5);
        }
        CHECK.due("tip(0)", room.tip(0), 24000);
        CHECK.due("take(0, WAY)", room.take(0, ArmRoom.WAY), 0);
        CHECK.due("value(0), still", room.value(0), 4);
        CHECK.due("take(4, FAR)", room.take(4, ArmRoom.FAR), 0);
        for (int joint = 0; joint < 5; joint++) {
            CHECK.due("value(" + joint + ") of the last", room.value(joint), joint == 4 ? 4 : 5);
        }
    }

    private static void takeOfMany() {
        CHECK.promise("15 and 16: IllegalStateException if there are more than 40000 poses, behind the others");
        ArmRoom room = Arms.slides(81, 26, 19);
        room.slack(0);
        int[] ranks = {0, 1, 9};
        for (int rank : ranks) {
            // Of 40014 poses one is a branch; but with so many it is not asked whether there is one.
            for (int by = 0; by <= 2; by++) {
                int known = by;
                CHECK.refused("branch(" + rank + ", " + by + ", 0)", STATE, () -> room.branch(rank, known, 0));
                CHECK.refused("take(" + rank + ", " + by + ")", STATE, () -> room.take(rank, known));
            }
            CHECK.refused("branch(" + rank + ", 3, 0)", ARGUMENT, () -> room.branch(rank, 3, 0));
            CHECK.refused("branch(" + rank + ", -1, 0)", ARGUMENT, () -> room.branch(rank, -1, 0));
            CHECK.refused("take(" + rank + ", 3)", ARGUMENT, () -> room.take(rank, 3));
            CHECK.refused("take(" + rank + ", -1)", ARGUMENT, () -> room.take(rank, -1));
        }
        int[] wrong = {-1, 10, 11, LEAST, MOST};
        for (int rank : wrong) {
            CHECK.refused("branch(" + rank + ", 0, 0)", INDEX, () -> room.branch(rank, 0, 0));
            CHECK.refused("branch(" + rank + ", 3, 0)", INDEX, () -> room.branch(rank, 3, 0));
            CHECK.refused("take(" + rank + ", 0)", INDEX, () -> room.take(rank, 0));
            CHECK.refused("take(" + rank + ", 3)", INDEX, () -> room.take(rank, 3));
        }
    }
}
