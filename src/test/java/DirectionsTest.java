/** What the document says under "Directions" and "Arms", at the edges that its sentences name. */
public final class DirectionsTest {
    private static final Check CHECK = new Check();

    /** Directions at the ends of the document's sentences, each with its cosine and its sine. */
    private static final int[][] ENDS = {
        {0, 1000, 0}, {1, 995, 98}, {15, 98, 995}, {16, 0, 1000}, {17, -98, 995}, {31, -995, 98},
        {32, -1000, 0}, {33, -995, -98}, {47, -98, -995}, {48, 0, -1000}, {49, 98, -995}, {63, 995, -98}
    };

    private static final int[] SINES = {
        0, 98, 195, 290, 383, 471, 556, 634, 707, 773, 831, 882, 924, 957, 981, 995, 1000
    };

    public static void main(String[] args) {
        fullTurn();
        fullTurnOfFive();
        alongXThenY();
        sinesOfTheFirstQuarter();
        sinesBehindIt();
        movesAtTheEnds();
        branchesAtTheEnds();
        withoutJoints();
        withFive();
        turns();
        slides();
        longest();
        CHECK.end("DirectionsTest");
    }

    private static ArmRoom turn(int length) {
        ArmRoom room = new ArmRoom();
        room.joint(ArmRoom.TURN, length, -32, 32);
        return room;
    }

    private static int valueOf(int direction) {
        return direction <= 32 ? direction : direction - 64;
    }

    private static void tips(String name, ArmRoom room, int x, int y, int heading) {
        int[] due = {x, y, heading};
        for (int what = 0; what < 3; what++) {
            CHECK.due("tip(" + what + ") " + name, room.tip(what), due[what]);
            CHECK.due("tipAnew(" + what + ") " + name, room.tipAnew(what), due[what]);
        }
    }

    private static void fullTurn() {
        CHECK.promise("a full turn has 64 parts; they are told as 0 to 63");
        int[][] rows = {
            {32, 31, 63}, {32, 32, 0}, {-32, -32, 0}, {-32, -31, 1}, {0, -1, 63}, {-1, 1, 0}, {-32, 0, 32},
            {32, 0, 32}, {0, 0, 0}, {-1, 0, 63}, {-32, 32, 0}, {-31, 0, 33}, {31, 1, 32}
        };
        ArmRoom room = turn(0);
        room.joint(ArmRoom.TURN, 0, -32, 32);
        for (int[] row : rows) {
            room.set(0, row[0]);
            room.set(1, row[1]);
            tips("of " + row[0] + " and " + row[1], room, 0, 0, row[2]);
        }
    }

    private static void fullTurnOfFive() {
        CHECK.promise("a full turn has 64 parts: with five turns");
        int[][] rows = {{32, 32}, {-32, 32}, {31, 27}, {-31, 37}, {13, 1}, {-13, 63}, {12, 60}, {-12, 4}};
        ArmRoom room = new ArmRoom();
        for (int joint = 0; joint < 5; joint++) {
            room.joint(ArmRoom.TURN, 0, -32, 32);
        }
        for (int[] row : rows) {
            for (int joint = 0; joint < 5; joint++) {
                room.set(joint, row[0]);
            }
            tips("of five by " + row[0], room, 0, 0, row[1]);
        }
    }

    private static void alongXThenY() {
        CHECK.promise("directions are counted from 0, along x, on, so that 16 is along y");
        ArmRoom room = turn(200);
        tips("at 0", room, 200000, 0, 0);
        room.set(0, 16);
        tips("at 16", room, 0, 200000, 16);
        room.set(0, 32);
        tips("at 32", room, -200000, 0, 32);
        room.set(0, -16);
        tips("at -16", room, 0, -200000, 48);
    }

    private static void sinesOfTheFirstQuarter() {
        CHECK.promise("the sine of the directions 0 to 16");
        ArmRoom room = turn(1);
        for (int direction = 0; direction <= 16; direction++) {
            room.set(0, direction);
            tips("at " + direction, room, SINES[16 - direction], SINES[direction], direction);
        }
    }

    private static void sinesBehindIt() {
        CHECK.promise("17 to 32 as 32 less d, 33 to 63 as d less 32, below 0; the cosine is 16 parts on");
        ArmRoom room = turn(1);
        for (int[] end : ENDS) {
            room.set(0, valueOf(end[0]));
            tips("at " + end[0], room, end[1], end[2], end[0]);
        }
    }

    /** From each end of a sentence the value more by 1 leads over to the next direction. */
    private static void movesAtTheEnds() {
        CHECK.promise("directions that a move leads over to");
        int[][] rows = {
            {0, 995 - 1000, 98}, {15, -98, 1000 - 995}, {16, -98, 995 - 1000}, {31, 995 - 1000, -98},
            {32, 1000 - 995, -98}, {-32, 1000 - 995, -98}, {-17, 98, 995 - 1000}, {-16, 98, 1000 - 995},
            {-1, 1000 - 995, 98}
        };
        ArmRoom room = turn(1);
        for (int[] row : rows) {
            room.set(0, row[0]);
            CHECK.due("moves(0, 0) at " + row[0], room.moves(0, 0), row[1]);
            CHECK.due("moves(0, 1) at " + row[0], room.moves(0, 1), row[2]);
        }
    }

    /** Each direction is the heading of the last of two turns, so that the search too turns over 0 and 63. */
    private static void branchesAtTheEnds() {
        CHECK.promise("directions that branches lead to");
        for (int[] end : ENDS) {
            for (int first = -32; first <= 32; first += 16) {
                ArmRoom room = new ArmRoom();
                room.joint(ArmRoom.TURN, 0, first, first);
                room.joint(ArmRoom.TURN, 1, -32, 32);
                room.slack(0);
                room.goal(end[1], end[2]);
                int value = valueOf(Math.floorMod(end[0] - first, 64));
                String name = " to " + end[0] + " behind " + first;
                CHECK.due("branches()" + name, room.branches(), value == 32 ? 2 : 1);
                CHECK.due("branch(0, 0, 1)" + name, room.branch(0, 0, 1), value == 32 ? -32 : value);
            }
        }
    }

    private static void withoutJoints() {
        CHECK.promise("its tip is at x 0 and y 0 without joints, its heading the direction 0");
        tips("without joints", new ArmRoom(), 0, 0, 0);
    }

    private static void withFive() {
        CHECK.promise("an arm has joints, at most 5; by rising joints");
        ArmRoom room = new ArmRoom();
        room.joint(ArmRoom.TURN, 10, -32, 32);
        room.joint(ArmRoom.SLIDE, 20, 0, 100);
        room.joint(ArmRoom.TURN, 30, -32, 32);
        room.joint(ArmRoom.SLIDE, 0, 0, 100);
        room.joint(ArmRoom.TURN, 40, -32, 32);
        tips("straight", room, 100000, 0, 0);
        room.set(0, 8);
        room.set(1, 5);
        room.set(2, 8);
        room.set(3, 100);
        // 35 along the direction 8, 130 along 16, 40 along 16.
        tips("bent twice", room, 35 * 707, 35 * 707 + 170000, 16);
        room.set(4, -16);
        tips("bent back", room, 35 * 707 + 40000, 35 * 707 + 130000, 0);
        room.set(4, -17);
        tips("bent on below 0", room, 35 * 707 + 40 * 995, 35 * 707 + 130000 - 40 * 98, 63);
    }

    private static void turns() {
        CHECK.promise("TURN: the heading turns on by the value; then the tip goes the length");
        ArmRoom room = turn(200);
        room.set(0, 16);
        room.joint(ArmRoom.TURN, 0, -32, 32);
        room.set(1, 16);
        tips("with a length of 0 behind", room, 0, 200000, 32);
        room.joint(ArmRoom.TURN, 1, 16, 16);
        tips("with a length of 1 behind", room, 0, 199000, 48);
    }

    private static void slides() {
        CHECK.promise("SLIDE: the tip goes the length and the value, together");
        ArmRoom room = new ArmRoom();
        room.joint(ArmRoom.SLIDE, 0, 0, 100);
        tips("of 0 and 0", room, 0, 0, 0);
        room.set(0, 100);
        tips("of 0 and 100", room, 100000, 0, 0);
        room.joint(ArmRoom.SLIDE, 200, 0, 100);
        tips("of 200 and 0 more", room, 300000, 0, 0);
        room.set(1, 100);
        tips("of 200 and 100 more", room, 400000, 0, 0);
        room.joint(ArmRoom.TURN, 0, 16, 16);
        tips("that turn at the end", room, 400000, 0, 16);
        room.joint(ArmRoom.SLIDE, 3, 4, 4);
        tips("and slide on", room, 400000, 7000, 16);
    }

    private static void longest() {
        CHECK.promise("the longest arm");
        ArmRoom room = turn(200);
        for (int joint = 1; joint < 5; joint++) {
            room.joint(ArmRoom.SLIDE, 200, 0, 100);
            room.set(joint, 100);
        }
        tips("along x", room, 1400000, 0, 0);
        room.set(0, -32);
        tips("along x, back", room, -1400000, 0, 32);
        room.set(0, -16);
        tips("along y, back", room, 0, -1400000, 48);
        CHECK.due("goal(1000000, 1000000)", room.goal(1000000, 1000000), 1000000L * 1000000 + 2400000L * 2400000);
    }
}
