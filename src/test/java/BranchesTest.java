/** Promises 13 to 16: branches. */
public final class BranchesTest {
    private static final Class<IndexOutOfBoundsException> INDEX = IndexOutOfBoundsException.class;
    private static final Class<IllegalArgumentException> ARGUMENT = IllegalArgumentException.class;
    private static final Class<IllegalStateException> STATE = IllegalStateException.class;

    private static final Check CHECK = new Check();

    public static void main(String[] args) {
        slack();
        branches();
        branchesByNumber();
        branch();
        branchByHeading();
        branchRefused();
        take();
        takeRefused();
        CHECK.end("BranchesTest");
    }

    private static ArmRoom slides(int high) {
        ArmRoom room = new ArmRoom();
        room.joint(ArmRoom.SLIDE, 0, 0, high);
        room.joint(ArmRoom.SLIDE, 0, 0, high);
        return room;
    }

    /** 65 times 65 times 10 poses. */
    private static ArmRoom tooMany() {
        ArmRoom room = new ArmRoom();
        room.joint(ArmRoom.TURN, 50, -32, 32);
        room.joint(ArmRoom.TURN, 50, -32, 32);
        room.joint(ArmRoom.SLIDE, 50, 0, 9);
        return room;
    }

    private static void slack() {
        CHECK.promise("13 slack");
        ArmRoom room = slides(20);
        CHECK.due("slack(0)", room.slack(0), 10000);
        CHECK.due("branches() with 0", room.branches(), 1);
        CHECK.due("slack(100000)", room.slack(100000), 0);
        CHECK.due("branches() with 100000", room.branches(), 21 * 21);
        CHECK.refused("slack(-1)", ARGUMENT, () -> room.slack(-1));
        CHECK.refused("slack(100001)", ARGUMENT, () -> room.slack(100001));
        CHECK.refused("slack(least)", ARGUMENT, () -> room.slack(Integer.MIN_VALUE));
        CHECK.refused("slack(most)", ARGUMENT, () -> room.slack(Integer.MAX_VALUE));
        CHECK.due("slack(7) after refusals", room.slack(7), 100000);
        CHECK.due("far(), still", room.far(), 0);
    }

    private static void branches() {
        CHECK.promise("14 branches");
        ArmRoom room = new ArmRoom();
        CHECK.due("branches() without joints, at the goal", room.branches(), 0);
        room.joint(ArmRoom.SLIDE, 5, 0, 20);
        room.goal(15000, 3000);
        room.slack(3000);
        CHECK.due("branches() of a slide", room.branches(), 7);
        room.goal(15000, -3000);
        CHECK.due("branches() below", room.branches(), 7);
        room.slack(2999);
        CHECK.due("branches() too low", room.branches(), 0);
        room.goal(15000, 0);
        CHECK.due("branches() of a lesser slack", room.branches(), 5);
        room.goal(24500, 0);
        CHECK.due("branches() at the end", room.branches(), 4);
        ArmRoom turn = new ArmRoom();
        turn.joint(ArmRoom.TURN, 100, -32, 32);
        turn.slack(0);
        turn.goal(-100000, 0);
        CHECK.due("branches() of both half turns", turn.branches(), 2);
        turn.slack(100000);
        turn.goal(0, 0);
        CHECK.due("branches() all round", turn.branches(), 65);
    }

    private static void branchesByNumber() {
        CHECK.promise("14 branches, up to 40000 poses");
        ArmRoom room = new ArmRoom();
        room.joint(ArmRoom.TURN, 0, -24, 25);
        room.joint(ArmRoom.TURN, 0, -24, 25);
        room.joint(ArmRoom.SLIDE, 0, 0, 15);
        int within = 50 * 50 * 11;
        for (int distance = 11; distance <= 15; distance++) {
            within += directionsWithin(distance);
        }
        CHECK.due("branches() of 40000", room.branches(), within);
        room.joint(ArmRoom.SLIDE, 0, 3, 3);
        room.slack(100000);
        CHECK.due("branches() of 40000 with one more value", room.branches(), 40000);
        room.joint(ArmRoom.TURN, 0, 0, 1);
        CHECK.refused("branches() of 80000", STATE, room::branches);
        ArmRoom one = new ArmRoom();
        one.joint(ArmRoom.SLIDE, 0, 0, 100);
        one.joint(ArmRoom.SLIDE, 0, 0, 3);
        one.joint(ArmRoom.SLIDE, 0, 0, 98);
        CHECK.due("branches() of 39996", one.branches(), 39996 - beyond(101, 4, 99));
        one.joint(ArmRoom.SLIDE, 0, 0, 1);
        CHECK.refused("branches() of 79992", STATE, one::branches);
        // The least number past 40000 that joints can come to.
        ArmRoom past = new ArmRoom();
        past.joint(ArmRoom.SLIDE, 0, 0, 80);
        past.joint(ArmRoom.SLIDE, 0, 0, 25);
        past.joint(ArmRoom.SLIDE, 0, 0, 18);
        CHECK.refused("branches() of 40014", STATE, past::branches);
        CHECK.refused("branch(0, 0, 0) of 40014", STATE, () -> past.branch(0, 0, 0));
        ArmRoom most = new ArmRoom();
        for (int joint = 0; joint < 5; joint++) {
            most.joint(ArmRoom.SLIDE, 0, 0, 100);
        }
        CHECK.refused("branches() of 101 five times over", STATE, most::branches);
        wrapping();
    }

    /** More poses than an int holds: 80 times 80 times 80 times 80 times 84 would come out below 0. */
    private static void wrapping() {
        ArmRoom room = new ArmRoom();
        for (int joint = 0; joint < 4; joint++) {
            room.joint(ArmRoom.SLIDE, 1, 0, 79);
        }
        room.joint(ArmRoom.SLIDE, 1, 0, 83);
        CHECK.due("the poses, as an int, below 0", 80 * 80 * 80 * 80 * 84 < 0 ? 1 : 0, 1);
        CHECK.refused("branches() of those", STATE, room::branches);
        CHECK.refused("branch(0, 0, 0) of those", STATE, () -> room.branch(0, 0, 0));
        CHECK.refused("take(0, 0) of those", STATE, () -> room.take(0, 0));
    }

    /** How many of the 50 times 50 headings lead a distance of that many to x and y within 10000. */
    private static int directionsWithin(int distance) {
        int within = 0;
        for (int one = -24; one <= 25; one++) {
            for (int two = -24; two <= 25; two++) {
                double angle = Math.PI * (one + two) / 32;
                long x = distance * Math.round(1000 * Math.cos(angle));
                long y = distance * Math.round(1000 * Math.sin(angle));
                within += Math.abs(x) <= 10000 && Math.abs(y) <= 10000 ? 1 : 0;
            }
        }
        return within;
    }

    /** How many sums of three values, each from 0 up to below its count, are more than 10. */
    private static int beyond(int first, int second, int third) {
        int beyond = 0;
        for (int one = 0; one < first; one++) {
            for (int two = 0; two < second; two++) {
                for (int three = 0; three < third; three++) {
                    beyond += one + two + three > 10 ? 1 : 0;
                }
            }
        }
        return beyond;
    }

    private static void row(ArmRoom room, int by, int rank, int first, int second) {
        CHECK.due("branch(" + rank + ", " + by + ", 0)", room.branch(rank, by, 0), first);
        CHECK.due("branch(" + rank + ", " + by + ", 1)", room.branch(rank, by, 1), second);
    }

    private static void branch() {
        CHECK.promise("15 branch");
        ArmRoom room = slides(20);
        room.goal(5000, 0);
        room.slack(1000);
        room.set(0, 4);
        room.set(1, 2);
        CHECK.due("branches()", room.branches(), 5 + 6 + 7);
        // By how far they are: those with a sum of 5 first, of the same by the values.
        row(room, ArmRoom.FAR, 0, 0, 5);
        row(room, ArmRoom.FAR, 5, 5, 0);
        row(room, ArmRoom.FAR, 6, 0, 4);
        row(room, ArmRoom.FAR, 7, 0, 6);
        row(room, ArmRoom.FAR, 8, 1, 3);
        row(room, ArmRoom.FAR, 9, 1, 5);
        // By the way from 4 and 2: that itself, with 1 (3 and 2, 4 and 1), with 2, ..
        row(room, ArmRoom.WAY, 0, 4, 2);
        row(room, ArmRoom.WAY, 1, 3, 2);
        row(room, ArmRoom.WAY, 2, 4, 1);
        row(room, ArmRoom.WAY, 3, 2, 2);
        row(room, ArmRoom.WAY, 4, 3, 1);
        row(room, ArmRoom.WAY, 5, 3, 3);
        row(room, ArmRoom.WAY, 6, 4, 0);
        row(room, ArmRoom.WAY, 7, 5, 1);
        // All have one heading: by their values.
        row(room, ArmRoom.HEADING, 0, 0, 4);
        row(room, ArmRoom.HEADING, 1, 0, 5);
        row(room, ArmRoom.HEADING, 2, 0, 6);
        row(room, ArmRoom.HEADING, 3, 1, 3);
        row(room, ArmRoom.HEADING, 9, 3, 1);
        CHECK.due("value(0), still", room.value(0), 4);
        CHECK.due("value(1), still", room.value(1), 2);
    }

    private static void branchByHeading() {
        CHECK.promise("15 branch, by the heading");
        ArmRoom room = new ArmRoom();
        room.joint(ArmRoom.TURN, 0, -32, 32);
        room.set(0, 30);
        int[] due = {30, 29, 31, -32, 28, 32, -31, 27, -30, 26};
        for (int rank = 0; rank < 10; rank++) {
            CHECK.due("branch(" + rank + ", 2, 0) from 30", room.branch(rank, 2, 0), due[rank]);
        }
        room.set(0, -32);
        int[] from = {-32, 32, -31, 31, -30, 30, -29, 29, -28, 28};
        for (int rank = 0; rank < 10; rank++) {
            CHECK.due("branch(" + rank + ", 2, 0) from -32", room.branch(rank, 2, 0), from[rank]);
        }
        int[] way = {-32, -31, -30, -29, -28, -27, -26, -25, -24, -23};
        for (int rank = 0; rank < 10; rank++) {
            CHECK.due("branch(" + rank + ", 1, 0) from -32", room.branch(rank, 1, 0), way[rank]);
        }
    }

    private static void branchRefused() {
        CHECK.promise("15 branch, refused");
        ArmRoom room = slides(20);
        room.slack(1000);
        CHECK.due("branches()", room.branches(), 3);
        CHECK.due("branch(2, 0, 0)", room.branch(2, 0, 0), 1);
        CHECK.refused("branch(3, 0, 0)", INDEX, () -> room.branch(3, 0, 0));
        CHECK.refused("branch(3, 7, 0)", INDEX, () -> room.branch(3, 7, 0));
        CHECK.refused("branch(10, 7, 0)", INDEX, () -> room.branch(10, 7, 0));
        CHECK.refused("branch(-1, 0, 0)", INDEX, () -> room.branch(-1, 0, 0));
        CHECK.refused("branch(least, 0, 0)", INDEX, () -> room.branch(Integer.MIN_VALUE, 0, 0));
        CHECK.refused("branch(0, 0, 2)", INDEX, () -> room.branch(0, 0, 2));
        CHECK.refused("branch(0, 3, -1)", INDEX, () -> room.branch(0, 3, -1));
        CHECK.refused("branch(2, 3, 0)", ARGUMENT, () -> room.branch(2, 3, 0));
        CHECK.refused("branch(0, -1, 0)", ARGUMENT, () -> room.branch(0, -1, 0));
        CHECK.refused("branch(0, most, 0)", ARGUMENT, () -> room.branch(0, Integer.MAX_VALUE, 0));
        room.slack(100000);
        CHECK.refused("branch(10, 0, 0) with branches enough", INDEX, () -> room.branch(10, 0, 0));
        room.goal(900000, 0);
        CHECK.refused("branch(0, 0, 0) without a branch", INDEX, () -> room.branch(0, 0, 0));
        ArmRoom many = tooMany();
        CHECK.refused("branch(0, 0, 0) of many", STATE, () -> many.branch(0, 0, 0));
        CHECK.refused("branch(9, 2, 2) of many", STATE, () -> many.branch(9, 2, 2));
        CHECK.refused("branch(10, 0, 0) of many", INDEX, () -> many.branch(10, 0, 0));
        CHECK.refused("branch(0, 0, 3) of many", INDEX, () -> many.branch(0, 0, 3));
        CHECK.refused("branch(0, 3, 0) of many", ARGUMENT, () -> many.branch(0, 3, 0));
        ArmRoom empty = new ArmRoom();
        CHECK.refused("branch(0, 0, 0) without joints", INDEX, () -> empty.branch(0, 0, 0));
    }

    private static void take() {
        CHECK.promise("16 take");
        ArmRoom room = slides(20);
        room.goal(5000, 300);
        room.slack(1000);
        room.set(0, 4);
        room.set(1, 2);
        CHECK.due("take(5, FAR)", room.take(5, ArmRoom.FAR), 90000);
        CHECK.due("value(0)", room.value(0), 5);
        CHECK.due("value(1)", room.value(1), 0);
        CHECK.due("far()", room.far(), 90000);
        CHECK.due("take(1, WAY)", room.take(1, ArmRoom.WAY), 1090000);
        CHECK.due("value(0) by WAY", room.value(0), 4);
        CHECK.due("value(1) by WAY", room.value(1), 0);
        CHECK.due("take(0, WAY)", room.take(0, ArmRoom.WAY), 1090000);
        CHECK.due("value(0) by no way", room.value(0), 4);
        CHECK.due("take(9, HEADING)", room.take(9, ArmRoom.HEADING), 1090000);
        CHECK.due("value(0) by HEADING", room.value(0), 3);
        CHECK.due("value(1) by HEADING", room.value(1), 1);
        CHECK.due("tip(0) after it", room.tip(0), 4000);
    }

    private static void takeRefused() {
        CHECK.promise("16 take, refused");
        ArmRoom room = slides(20);
        room.slack(1000);
        room.set(0, 9);
        CHECK.refused("take(3, 0)", INDEX, () -> room.take(3, 0));
        CHECK.refused("take(3, 3)", INDEX, () -> room.take(3, 3));
        CHECK.refused("take(10, -1)", INDEX, () -> room.take(10, -1));
        CHECK.refused("take(-1, 0)", INDEX, () -> room.take(-1, 0));
        CHECK.refused("take(2, 3)", ARGUMENT, () -> room.take(2, 3));
        CHECK.refused("take(0, -1)", ARGUMENT, () -> room.take(0, -1));
        CHECK.due("value(0) after refusals", room.value(0), 9);
        CHECK.due("take(2, 0)", room.take(2, 0), 1000000);
        ArmRoom many = tooMany();
        CHECK.refused("take(0, 0) of many", STATE, () -> many.take(0, 0));
        CHECK.refused("take(10, 0) of many", INDEX, () -> many.take(10, 0));
        CHECK.refused("take(0, 3) of many", ARGUMENT, () -> many.take(0, 3));
        ArmRoom empty = new ArmRoom();
        CHECK.refused("take(0, 0) without joints", INDEX, () -> empty.take(0, 0));
        CHECK.refused("take(0, 5) without joints", INDEX, () -> empty.take(0, 5));
    }
}
