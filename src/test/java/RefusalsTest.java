/** "Exceptions": the first line of the throws clause that applies decides; a call that throws changes nothing. */
public final class RefusalsTest {
    private static final Class<IndexOutOfBoundsException> INDEX = IndexOutOfBoundsException.class;
    private static final Class<IllegalArgumentException> ARGUMENT = IllegalArgumentException.class;
    private static final Class<IllegalStateException> STATE = IllegalStateException.class;
    private static final int TURN = ArmRoom.TURN;
    private static final int SLIDE = ArmRoom.SLIDE;
    private static final int LEAST = Integer.MIN_VALUE;
    private static final int MOST = Integer.MAX_VALUE;

    private static final int[][] WRONG_JOINTS = {
        {-1, 5, 0, 0}, {2, 5, 0, 0}, {LEAST, 5, 0, 0}, {MOST, 5, 0, 0},
        {TURN, -1, 0, 0}, {TURN, 201, 0, 0}, {SLIDE, -1, 0, 0}, {SLIDE, 201, 0, 0},
        {TURN, 5, -33, 0}, {TURN, 5, 33, 33}, {TURN, 5, 0, 33}, {TURN, 5, 1, 0}, {TURN, 5, LEAST, MOST},
        {SLIDE, 5, -1, 0}, {SLIDE, 5, 101, 101}, {SLIDE, 5, 0, 101}, {SLIDE, 5, 1, 0}, {SLIDE, 5, MOST, LEAST}
    };

    private static final Check CHECK = new Check();

    public static void main(String[] args) {
        sight();
        joint();
        jointOfSix();
        set();
        value();
        told();
        moves();
        goal();
        steps();
        slack();
        branches();
        branch();
        branchOfMany();
        take();
        takeOfMany();
        CHECK.end("RefusalsTest");
    }

    /** The tip is at the goal, and no other pose within the slack. */
    private static ArmRoom one() {
        ArmRoom room = new ArmRoom();
        room.joint(SLIDE, 100, 0, 20);
        room.set(0, 7);
        room.goal(107000, 900);
        room.slack(900);
        return room;
    }

    private static ArmRoom two() {
        ArmRoom room = new ArmRoom();
        room.joint(TURN, 100, -3, 7);
        room.joint(SLIDE, 10, 20, 30);
        return posed(room);
    }

    private static ArmRoom five() {
        ArmRoom room = new ArmRoom();
        room.joint(TURN, 100, -3, 7);
        room.joint(SLIDE, 10, 20, 30);
        room.joint(TURN, 40, -16, -10);
        room.joint(SLIDE, 0, 0, 3);
        room.joint(TURN, 15, 32, 32);
        return posed(room);
    }

    /** 81 times 26 times 19 poses are 40014, the least number past 40000 that joints can come to. */
    private static ArmRoom many() {
        ArmRoom room = new ArmRoom();
        room.joint(SLIDE, 100, 0, 80);
        room.joint(TURN, 0, -10, 15);
        room.joint(SLIDE, 10, 12, 30);
        return posed(room);
    }

    /** Out of the pose, goal and slack of a new one, so that it is seen if these come back. */
    private static ArmRoom posed(ArmRoom room) {
        room.set(0, 2);
        room.set(1, room.value(1) + 5);
        room.goal(110000, 35000);
        room.slack(60000);
        return room;
    }

    private static void refusedByAll(String call, Class<? extends RuntimeException> want, Check.Use use) {
        CHECK.refusedUnchanged(call + " without joints", want, ArmRoom::new, use);
        CHECK.refusedUnchanged(call + " of two", want, RefusalsTest::two, use);
        CHECK.refusedUnchanged(call + " of five", want, RefusalsTest::five, use);
        CHECK.refusedUnchanged(call + " of many", want, RefusalsTest::many, use);
    }

    /** What these tests look at must show each thing that a call may change. */
    private static void sight() {
        CHECK.promise("what is seen of a room");
        Check.Use[] changes = {
            room -> room.joint(TURN, 0, 0, 0), room -> room.set(0, 3), room -> room.set(1, 29),
            room -> room.goal(110001, 35000), room -> room.goal(110000, 34999), room -> room.slack(59999),
            room -> room.steps(1), room -> room.take(1, ArmRoom.FAR)
        };
        String untouched = Sight.usingUp(two());
        for (int change = 0; change < changes.length; change++) {
            ArmRoom room = two();
            changes[change].on(room);
            CHECK.due("seen, change " + change, Sight.usingUp(room).equals(untouched) ? 0 : 1, 1);
        }
        CHECK.tell("the same of the same", Sight.usingUp(two()), untouched);
    }

    private static void joint() {
        CHECK.promise("2: IllegalArgumentException if an argument is out of range");
        for (int[] row : WRONG_JOINTS) {
            String call = "joint" + java.util.Arrays.toString(row);
            refusedByAll(call, ARGUMENT, room -> room.joint(row[0], row[1], row[2], row[3]));
        }
    }

    private static void jointOfSix() {
        CHECK.promise("2: IllegalStateException if there are 5, behind the arguments");
        int[][] right = {{TURN, 0, 0, 0}, {TURN, 200, -32, 32}, {SLIDE, 0, 0, 0}, {SLIDE, 200, 0, 100}};
        for (int[] row : right) {
            String call = "joint" + java.util.Arrays.toString(row);
            CHECK.refusedUnchanged(call + " of five", STATE, RefusalsTest::five,
                    room -> room.joint(row[0], row[1], row[2], row[3]));
        }
    }

    private static void set() {
        CHECK.promise("3: IndexOutOfBoundsException, then IllegalArgumentException");
        int[] nowhere = {-1, 5, LEAST, MOST};
        for (int joint : nowhere) {
            refusedByAll("set(" + joint + ", 0)", INDEX, room -> room.set(joint, 0));
            refusedByAll("set(" + joint + ", greatest)", INDEX, room -> room.set(joint, MOST));
        }
        CHECK.refusedUnchanged("set(0, 0) without joints", INDEX, ArmRoom::new, room -> room.set(0, 0));
        CHECK.refusedUnchanged("set(2, 0) of two", INDEX, RefusalsTest::two, room -> room.set(2, 0));
        int[][] wrong = {{0, -4}, {0, 8}, {0, LEAST}, {0, MOST}, {1, 19}, {1, 31}, {1, LEAST}, {1, MOST}};
        for (int[] row : wrong) {
            String call = "set" + java.util.Arrays.toString(row);
            CHECK.refusedUnchanged(call + " of two", ARGUMENT, RefusalsTest::two, room -> room.set(row[0], row[1]));
            CHECK.refusedUnchanged(call + " of five", ARGUMENT, RefusalsTest::five, room -> room.set(row[0], row[1]));
        }
        CHECK.refusedUnchanged("set(4, 31) of five", ARGUMENT, RefusalsTest::five, room -> room.set(4, 31));
        CHECK.refusedUnchanged("set(4, -32) of five", ARGUMENT, RefusalsTest::five, room -> room.set(4, -32));
    }

    private static void value() {
        CHECK.promise("4: IndexOutOfBoundsException");
        int[] nowhere = {-1, 5, LEAST, MOST};
        for (int joint : nowhere) {
            refusedByAll("value(" + joint + ")", INDEX, room -> room.value(joint));
        }
        CHECK.refusedUnchanged("value(0) without joints", INDEX, ArmRoom::new, room -> room.value(0));
        CHECK.refusedUnchanged("value(2) of two", INDEX, RefusalsTest::two, room -> room.value(2));
        CHECK.refusedUnchanged("value(3) of many", INDEX, RefusalsTest::many, room -> room.value(3));
    }

    private static void told() {
        CHECK.promise("5 and 6: IllegalArgumentException if what is out of range");
        int[] wrong = {-1, 3, LEAST, MOST};
        for (int what : wrong) {
            refusedByAll("tip(" + what + ")", ARGUMENT, room -> room.tip(what));
            refusedByAll("tipAnew(" + what + ")", ARGUMENT, room -> room.tipAnew(what));
        }
    }

    private static void moves() {
        CHECK.promise("7: IndexOutOfBoundsException, then IllegalArgumentException");
        int[] nowhere = {-1, 5, LEAST, MOST};
        for (int joint : nowhere) {
            refusedByAll("moves(" + joint + ", 0)", INDEX, room -> room.moves(joint, 0));
            refusedByAll("moves(" + joint + ", 2)", INDEX, room -> room.moves(joint, 2));
        }
        CHECK.refusedUnchanged("moves(0, 0) without joints", INDEX, ArmRoom::new, room -> room.moves(0, 0));
        CHECK.refusedUnchanged("moves(2, 2) of two", INDEX, RefusalsTest::two, room -> room.moves(2, 2));
        int[] wrong = {-1, 2, LEAST, MOST};
        for (int what : wrong) {
            CHECK.refusedUnchanged("moves(0, " + what + ")", ARGUMENT, RefusalsTest::two, room -> room.moves(0, what));
            CHECK.refusedUnchanged("moves(4, " + what + ")", ARGUMENT, RefusalsTest::five, room -> room.moves(4, what));
        }
    }

    private static void goal() {
        CHECK.promise("9: IllegalArgumentException if x or y is out of range");
        int[][] wrong = {
            {1000001, 7}, {-1000001, 7}, {7, 1000001}, {7, -1000001}, {1000001, -1000001},
            {LEAST, 7}, {MOST, 7}, {7, LEAST}, {7, MOST}
        };
        for (int[] row : wrong) {
            String call = "goal" + java.util.Arrays.toString(row);
            refusedByAll(call, ARGUMENT, room -> room.goal(row[0], row[1]));
        }
    }

    private static void steps() {
        CHECK.promise("11: IllegalArgumentException if most is out of range");
        int[] wrong = {0, -1, 201, LEAST, MOST};
        for (int most : wrong) {
            refusedByAll("steps(" + most + ")", ARGUMENT, room -> room.steps(most));
        }
    }

    private static void slack() {
        CHECK.promise("13: IllegalArgumentException if slack is out of range");
        int[] wrong = {-1, 100001, LEAST, MOST};
        for (int slack : wrong) {
            refusedByAll("slack(" + slack + ")", ARGUMENT, room -> room.slack(slack));
        }
    }

    private static void branches() {
        CHECK.promise("14: IllegalStateException if there are more than 40000 poses");
        CHECK.refusedUnchanged("branches() of many", STATE, RefusalsTest::many, ArmRoom::branches);
    }

    private static void branch() {
        CHECK.promise("15: IndexOutOfBoundsException, then IllegalArgumentException");
        int[] outside = {-1, 10, LEAST, MOST};
        for (int wrong : outside) {
            refusedByAll("branch(" + wrong + ", 0, 0)", INDEX, room -> room.branch(wrong, 0, 0));
            refusedByAll("branch(" + wrong + ", 3, 0)", INDEX, room -> room.branch(wrong, 3, 0));
            refusedByAll("branch(0, 0, " + wrong + ")", INDEX, room -> room.branch(0, 0, wrong));
            refusedByAll("branch(0, 3, " + wrong + ")", INDEX, room -> room.branch(0, 3, wrong));
        }
        CHECK.refusedUnchanged("branch(0, 0, 0) without joints", INDEX, ArmRoom::new, room -> room.branch(0, 0, 0));
        CHECK.refusedUnchanged("branch(0, 0, 2) of two", INDEX, RefusalsTest::two, room -> room.branch(0, 0, 2));
        CHECK.refusedUnchanged("branch(0, 3, 2) of two", INDEX, RefusalsTest::two, room -> room.branch(0, 3, 2));
        CHECK.refusedUnchanged("branch(1, 0, 0) of one", INDEX, RefusalsTest::one, room -> room.branch(1, 0, 0));
        CHECK.refusedUnchanged("branch(1, 3, 0) of one", INDEX, RefusalsTest::one, room -> room.branch(1, 3, 0));
        int[] unknown = {-1, 3, LEAST, MOST};
        for (int by : unknown) {
            String call = "branch(0, " + by + ", 0)";
            CHECK.refusedUnchanged(call + " of one", ARGUMENT, RefusalsTest::one, room -> room.branch(0, by, 0));
            CHECK.refusedUnchanged(call + " of two", ARGUMENT, RefusalsTest::two, room -> room.branch(0, by, 0));
            CHECK.refusedUnchanged(call + " of five", ARGUMENT, RefusalsTest::five, room -> room.branch(0, by, 0));
            CHECK.refusedUnchanged(call + " of many", ARGUMENT, RefusalsTest::many, room -> room.branch(0, by, 0));
        }
    }

    private static void branchOfMany() {
        CHECK.promise("15: IllegalStateException if there are more than 40000 poses");
        for (int by = 0; by <= 2; by++) {
            int known = by;
            String more = ", " + by + ", 2) of many";
            CHECK.refusedUnchanged("branch(0" + more, STATE, RefusalsTest::many, room -> room.branch(0, known, 2));
            CHECK.refusedUnchanged("branch(9" + more, STATE, RefusalsTest::many, room -> room.branch(9, known, 2));
        }
    }

    private static void take() {
        CHECK.promise("16: IndexOutOfBoundsException, then IllegalArgumentException");
        int[] outside = {-1, 10, LEAST, MOST};
        for (int rank : outside) {
            refusedByAll("take(" + rank + ", 0)", INDEX, room -> room.take(rank, 0));
            refusedByAll("take(" + rank + ", 3)", INDEX, room -> room.take(rank, 3));
        }
        CHECK.refusedUnchanged("take(0, 0) without joints", INDEX, ArmRoom::new, room -> room.take(0, 0));
        CHECK.refusedUnchanged("take(0, 3) without joints", INDEX, ArmRoom::new, room -> room.take(0, 3));
        CHECK.refusedUnchanged("take(1, 0) of one", INDEX, RefusalsTest::one, room -> room.take(1, 0));
        CHECK.refusedUnchanged("take(1, 3) of one", INDEX, RefusalsTest::one, room -> room.take(1, 3));
        int[] unknown = {-1, 3, LEAST, MOST};
        for (int by : unknown) {
            String call = "take(0, " + by + ")";
            CHECK.refusedUnchanged(call + " of one", ARGUMENT, RefusalsTest::one, room -> room.take(0, by));
            CHECK.refusedUnchanged(call + " of two", ARGUMENT, RefusalsTest::two, room -> room.take(0, by));
            CHECK.refusedUnchanged(call + " of five", ARGUMENT, RefusalsTest::five, room -> room.take(0, by));
            CHECK.refusedUnchanged(call + " of many", ARGUMENT, RefusalsTest::many, room -> room.take(0, by));
        }
    }

    private static void takeOfMany() {
        CHECK.promise("16: IllegalStateException if there are more than 40000 poses");
        for (int by = 0; by <= 2; by++) {
            int known = by;
            CHECK.refusedUnchanged("take(0, " + by + ")", STATE, RefusalsTest::many, room -> room.take(0, known));
            CHECK.refusedUnchanged("take(9, " + by + ")", STATE, RefusalsTest::many, room -> room.take(9, known));
        }
    }
}
