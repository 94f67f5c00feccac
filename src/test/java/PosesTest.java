/** Promises 1 to 8: joints and poses. */
public final class PosesTest {
    private static final Class<IndexOutOfBoundsException> INDEX = IndexOutOfBoundsException.class;
    private static final Class<IllegalArgumentException> ARGUMENT = IllegalArgumentException.class;
    private static final Class<IllegalStateException> STATE = IllegalStateException.class;

    private static final Check CHECK = new Check();

    public static void main(String[] args) {
        newObject();
        joint();
        set();
        value();
        tip();
        tipAnew();
        moves();
        freedom();
        CHECK.end("PosesTest");
    }

    private static void newObject() {
        CHECK.promise("1 a new object");
        ArmRoom room = new ArmRoom();
        CHECK.refused("value(0)", INDEX, () -> room.value(0));
        CHECK.due("tip(0)", room.tip(0), 0);
        CHECK.due("tip(1)", room.tip(1), 0);
        CHECK.due("tip(2)", room.tip(2), 0);
        CHECK.due("far()", room.far(), 0);
        CHECK.due("slack(5)", room.slack(5), 10000);
        ArmRoom next = new ArmRoom();
        CHECK.due("slack(5) of the next", next.slack(5), 10000);
        CHECK.due("joint of the next", next.joint(ArmRoom.TURN, 3, 0, 0), 0);
        CHECK.due("far() of the next", next.far(), 9000000);
    }

    private static void joint() {
        CHECK.promise("2 joint");
        ArmRoom room = new ArmRoom();
        CHECK.due("around 0", room.joint(ArmRoom.TURN, 0, -32, 32), 0);
        CHECK.due("above 0", room.joint(ArmRoom.TURN, 200, 5, 32), 1);
        CHECK.due("below 0", room.joint(ArmRoom.TURN, 200, -32, -30), 2);
        CHECK.due("slide from 0", room.joint(ArmRoom.SLIDE, 0, 0, 100), 3);
        refusedJoints(room, 4);
        CHECK.due("slide above 0", room.joint(ArmRoom.SLIDE, 200, 100, 100), 4);
        CHECK.due("value(0)", room.value(0), 0);
        CHECK.due("value(1)", room.value(1), 5);
        CHECK.due("value(2)", room.value(2), -30);
        CHECK.due("value(3)", room.value(3), 0);
        CHECK.due("value(4)", room.value(4), 100);
        CHECK.refused("a sixth", STATE, () -> room.joint(ArmRoom.TURN, 10, 0, 0));
        CHECK.refused("value(5)", INDEX, () -> room.value(5));
        refusedJoints(room, 5);
        CHECK.due("set(0, 32), still", room.set(0, 32), 0);
        CHECK.due("set(0, -32), still", room.set(0, -32), 32);
    }

    /** Arguments out of range are refused as such with 5 joints too, and add no joint. */
    private static void refusedJoints(ArmRoom room, int next) {
        int[][] wrong = {
            {2, 5, 0, 0}, {-1, 5, 0, 0}, {0, -1, 0, 0}, {0, 201, 0, 0}, {1, -1, 0, 0}, {1, 201, 0, 0},
            {0, 5, -33, 0}, {0, 5, 0, 33}, {0, 5, 1, 0}, {0, 5, -5, -6}, {0, 5, 33, 33}, {0, 5, -33, -33},
            {1, 5, -1, 0}, {1, 5, 0, 101}, {1, 5, 51, 50}, {1, 5, 101, 101}, {1, 5, -1, -1},
            {Integer.MIN_VALUE, 5, 0, 0}, {0, Integer.MIN_VALUE, 0, 0}, {0, 5, Integer.MIN_VALUE, 0},
            {0, 5, 0, Integer.MAX_VALUE}, {1, 5, Integer.MAX_VALUE, Integer.MIN_VALUE}
        };
        for (int[] row : wrong) {
            CHECK.refused("joint" + java.util.Arrays.toString(row), ARGUMENT,
                    () -> room.joint(row[0], row[1], row[2], row[3]));
        }
        CHECK.refused("value(" + next + ")", INDEX, () -> room.value(next));
    }

    private static void set() {
        CHECK.promise("3 set");
        ArmRoom room = new ArmRoom();
        CHECK.refused("set(0, 0) without joints", INDEX, () -> room.set(0, 0));
        room.joint(ArmRoom.TURN, 10, -3, 7);
        room.joint(ArmRoom.SLIDE, 10, 20, 30);
        CHECK.due("set(0, -3)", room.set(0, -3), 0);
        CHECK.due("set(0, 7)", room.set(0, 7), -3);
        CHECK.due("set(1, 30)", room.set(1, 30), 20);
        CHECK.due("set(1, 20)", room.set(1, 20), 30);
        CHECK.due("set(1, 25)", room.set(1, 25), 20);
        CHECK.refused("set(0, -4)", ARGUMENT, () -> room.set(0, -4));
        CHECK.refused("set(0, 8)", ARGUMENT, () -> room.set(0, 8));
        CHECK.refused("set(1, 19)", ARGUMENT, () -> room.set(1, 19));
        CHECK.refused("set(1, 31)", ARGUMENT, () -> room.set(1, 31));
        CHECK.refused("set(2, 0)", INDEX, () -> room.set(2, 0));
        CHECK.refused("set(-1, 0)", INDEX, () -> room.set(-1, 0));
        CHECK.refused("set(5, 1000)", INDEX, () -> room.set(5, 1000));
        CHECK.refused("set(least, 0)", INDEX, () -> room.set(Integer.MIN_VALUE, 0));
        CHECK.refused("set(0, least)", ARGUMENT, () -> room.set(0, Integer.MIN_VALUE));
        CHECK.due("value(0) after refusals", room.value(0), 7);
        CHECK.due("value(1) after refusals", room.value(1), 25);
    }

    private static void value() {
        CHECK.promise("4 value");
        ArmRoom room = new ArmRoom();
        room.joint(ArmRoom.TURN, 10, -3, 7);
        room.joint(ArmRoom.SLIDE, 10, 0, 30);
        room.set(0, -2);
        room.set(1, 12);
        CHECK.due("value(0)", room.value(0), -2);
        CHECK.due("value(1)", room.value(1), 12);
        CHECK.due("value(1) again", room.value(1), 12);
        CHECK.refused("value(2)", INDEX, () -> room.value(2));
        CHECK.refused("value(-1)", INDEX, () -> room.value(-1));
        CHECK.refused("value(6)", INDEX, () -> room.value(6));
        CHECK.refused("value(most)", INDEX, () -> room.value(Integer.MAX_VALUE));
    }

    private static void tip() {
        CHECK.promise("5 tip");
        ArmRoom room = new ArmRoom();
        room.joint(ArmRoom.TURN, 1, -32, 32);
        everyDirection(room);
        room.set(0, 16);
        room.joint(ArmRoom.SLIDE, 20, 0, 100);
        room.set(1, 7);
        CHECK.due("tip(0) upright", room.tip(0), 0);
        CHECK.due("tip(1) upright", room.tip(1), 28000);
        room.joint(ArmRoom.TURN, 10, -32, 32);
        room.set(2, -24);
        CHECK.due("tip(0) bent", room.tip(0), 7070);
        CHECK.due("tip(1) bent", room.tip(1), 28000 - 7070);
        CHECK.due("tip(2) bent", room.tip(2), 56);
        refusedTold("tip", room, false);
        fiveTurns(room);
    }

    /** The sines as the document writes them, and the folds round the turn. */
    private static void everyDirection(ArmRoom room) {
        int[] sines = {0, 98, 195, 290, 383, 471, 556, 634, 707, 773, 831, 882, 924, 957, 981, 995, 1000};
        for (int value = -32; value <= 32; value++) {
            room.set(0, value);
            int heading = (value + 64) % 64;
            int fold = heading % 32 <= 16 ? heading % 32 : 32 - heading % 32;
            int side = 16 - fold;
            int sine = heading < 32 ? sines[fold] : -sines[fold];
            int cosine = heading <= 16 || heading >= 48 ? sines[side] : -sines[side];
            CHECK.due("tip(0) at " + value, room.tip(0), cosine);
            CHECK.due("tip(1) at " + value, room.tip(1), sine);
            CHECK.due("tip(2) at " + value, room.tip(2), heading);
        }
    }

    private static void refusedTold(String call, ArmRoom room, boolean anew) {
        int[] wrong = {-1, 3, Integer.MIN_VALUE, Integer.MAX_VALUE};
        for (int what : wrong) {
            CHECK.refused(call + "(" + what + ")", ARGUMENT, () -> anew ? room.tipAnew(what) : room.tip(what));
        }
    }

    private static void fiveTurns(ArmRoom used) {
        ArmRoom room = new ArmRoom();
        for (int joint = 0; joint < 5; joint++) {
            room.joint(ArmRoom.TURN, 200, -32, 32);
            room.set(joint, -32);
        }
        CHECK.due("tip(2) of five half turns back", room.tip(2), 32);
        CHECK.due("tip(0) of five half turns back", room.tip(0), -200000);
        for (int joint = 0; joint < 5; joint++) {
            room.set(joint, 31);
        }
        CHECK.due("tip(2) of 155 parts", room.tip(2), 155 % 64);
        CHECK.due("tip(0) of the other room", used.tip(0), 7070);
    }

    private static void tipAnew() {
        CHECK.promise("6 tipAnew");
        ArmRoom room = new ArmRoom();
        CHECK.due("tipAnew(0) without joints", room.tipAnew(0), 0);
        CHECK.due("tipAnew(1) without joints", room.tipAnew(1), 0);
        CHECK.due("tipAnew(2) without joints", room.tipAnew(2), 0);
        room.joint(ArmRoom.TURN, 100, -16, 16);
        room.joint(ArmRoom.TURN, 80, -32, 32);
        room.joint(ArmRoom.SLIDE, 20, 0, 30);
        room.set(0, 8);
        room.set(1, -16);
        CHECK.due("tipAnew(0)", room.tipAnew(0), 141400);
        CHECK.due("tipAnew(1)", room.tipAnew(1), 0);
        CHECK.due("tipAnew(2)", room.tipAnew(2), 56);
        room.set(1, 8);
        room.set(2, 30);
        CHECK.due("tipAnew(0) bent", room.tipAnew(0), 70700);
        CHECK.due("tipAnew(1) bent", room.tipAnew(1), 70700 + 130000);
        CHECK.due("tipAnew(2) bent", room.tipAnew(2), 16);
        refusedTold("tipAnew", room, true);
    }

    private static void moves() {
        CHECK.promise("7 moves");
        ArmRoom room = new ArmRoom();
        CHECK.refused("moves(0, 0) without joints", INDEX, () -> room.moves(0, 0));
        room.joint(ArmRoom.TURN, 100, -16, 16);
        room.joint(ArmRoom.SLIDE, 20, 0, 30);
        CHECK.due("moves(0, 0)", room.moves(0, 0), -120 * 5);
        CHECK.due("moves(0, 1)", room.moves(0, 1), 120 * 98);
        CHECK.due("moves(1, 0)", room.moves(1, 0), 1000);
        CHECK.due("moves(1, 1)", room.moves(1, 1), 0);
        room.set(0, 16);
        room.set(1, 30);
        CHECK.due("moves(0, 0) at the limit", room.moves(0, 0), -150 * 98);
        CHECK.due("moves(0, 1) at the limit", room.moves(0, 1), -150 * 5);
        CHECK.due("moves(1, 0) at the limit", room.moves(1, 0), 0);
        CHECK.due("moves(1, 1) at the limit", room.moves(1, 1), 1000);
        CHECK.refused("moves(2, 0)", INDEX, () -> room.moves(2, 0));
        CHECK.refused("moves(-1, 0)", INDEX, () -> room.moves(-1, 0));
        CHECK.refused("moves(2, 2)", INDEX, () -> room.moves(2, 2));
        CHECK.refused("moves(0, 2)", ARGUMENT, () -> room.moves(0, 2));
        CHECK.refused("moves(1, -1)", ARGUMENT, () -> room.moves(1, -1));
        CHECK.due("value(0), still", room.value(0), 16);
        CHECK.due("value(1), still", room.value(1), 30);
    }

    private static void freedom() {
        CHECK.promise("8 freedom");
        ArmRoom room = new ArmRoom();
        CHECK.due("freedom() without joints", room.freedom(), 0);
        room.joint(ArmRoom.SLIDE, 20, 0, 30);
        CHECK.due("freedom() with one", room.freedom(), 0);
        room.joint(ArmRoom.SLIDE, 20, 0, 30);
        CHECK.due("freedom() of two that go along", room.freedom(), 0);
        room.joint(ArmRoom.TURN, 100, -32, 32);
        CHECK.due("freedom() with a turn", room.freedom(), 1000 * 9800);
        room.set(2, -16);
        CHECK.due("freedom() without its sign", room.freedom(), 1000 * 500);
        room.set(2, 16);
        CHECK.due("freedom() with its sign", room.freedom(), 1000 * 500);
        ArmRoom two = new ArmRoom();
        two.joint(ArmRoom.TURN, 100, -32, 32);
        two.joint(ArmRoom.SLIDE, 20, 0, 30);
        CHECK.due("freedom() of two", two.freedom(), 1000 * 120 * 98);
        pastInts();
    }

    private static void pastInts() {
        ArmRoom room = new ArmRoom();
        room.joint(ArmRoom.TURN, 200, 0, 0);
        room.joint(ArmRoom.SLIDE, 200, 100, 100);
        room.joint(ArmRoom.TURN, 200, 16, 16);
        room.joint(ArmRoom.SLIDE, 200, 100, 100);
        room.joint(ArmRoom.SLIDE, 200, 100, 100);
        // The two turns move the tip by -80900 and 45000, and by -78400 and -4000.
        CHECK.due("freedom() past the ints", room.freedom(), 80900L * 4000 + 45000L * 78400);
    }
}
