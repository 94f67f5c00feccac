/** Promises 1 to 8 at the edges that their sentences name: just inside and just outside of each range. */
public final class PoseEdgesTest {
    private static final Class<IndexOutOfBoundsException> INDEX = IndexOutOfBoundsException.class;
    private static final Class<IllegalArgumentException> ARGUMENT = IllegalArgumentException.class;
    private static final Class<IllegalStateException> STATE = IllegalStateException.class;
    private static final int TURN = ArmRoom.TURN;
    private static final int SLIDE = ArmRoom.SLIDE;
    private static final int LEAST = Integer.MIN_VALUE;
    private static final int MOST = Integer.MAX_VALUE;

    private static final Check CHECK = new Check();

    public static void main(String[] args) {
        newObject();
        calls();
        jointKind();
        jointLength();
        jointLow();
        jointHigh();
        jointValue();
        jointNumber();
        set();
        setOneValue();
        setJoint();
        value();
        told();
        tipAnewFromTheBack();
        movesJoint();
        movesWhat();
        movesWhateverTheLimits();
        movesOfFive();
        freedomOfFew();
        freedomOfAllTwo();
        freedomByMore();
        freedomPastInts();
        CHECK.end("PoseEdgesTest");
    }

    private static void newObject() {
        CHECK.promise("1: an arm without joints, the goal at 0 and 0, the slack 10000");
        CHECK.refused("value(0)", INDEX, () -> new ArmRoom().value(0));
        CHECK.due("joint", new ArmRoom().joint(TURN, 1, 0, 0), 0);
        CHECK.due("far()", new ArmRoom().far(), 0);
        CHECK.due("far() of 3 along x", Arms.of(new int[] {TURN, 3, 0, 0}).far(), 9000000);
        CHECK.due("far() of 3 along y", Arms.of(new int[] {TURN, 3, 16, 16}).far(), 9000000);
        CHECK.due("slack(10000)", new ArmRoom().slack(10000), 10000);
        CHECK.due("branches() of 10 along x", Arms.of(new int[] {TURN, 10, 0, 0}).branches(), 1);
        CHECK.due("branches() of 11 along x", Arms.of(new int[] {TURN, 11, 0, 0}).branches(), 0);
        CHECK.due("branches() of 10 along y", Arms.of(new int[] {TURN, 10, -16, -16}).branches(), 1);
        CHECK.due("branches() of 11 along y", Arms.of(new int[] {TURN, 11, -16, -16}).branches(), 0);
    }

    private static void calls() {
        CHECK.promise("an object is used for at most 512 calls");
        ArmRoom room = Arms.of(new int[] {SLIDE, 0, 0, 100});
        for (int call = 2; call <= 511; call++) {
            CHECK.due("call " + call, room.set(0, call % 101), call == 2 ? 0 : (call - 1) % 101);
        }
        CHECK.due("the 512th call", room.far(), 6000L * 6000);
    }

    private static void jointKind() {
        CHECK.promise("2: kind, TURN or SLIDE");
        ArmRoom room = new ArmRoom();
        CHECK.refused("kind -1", ARGUMENT, () -> room.joint(-1, 5, 0, 0));
        CHECK.refused("kind 2", ARGUMENT, () -> room.joint(2, 5, 0, 0));
        CHECK.refused("the least kind", ARGUMENT, () -> room.joint(LEAST, 5, 0, 0));
        CHECK.refused("the greatest kind", ARGUMENT, () -> room.joint(MOST, 5, 0, 0));
        CHECK.due("kind 0", room.joint(0, 0, 16, 16), 0);
        CHECK.due("kind 1", room.joint(1, 0, 16, 16), 1);
        CHECK.due("tip(0)", room.tip(0), 0);
        CHECK.due("tip(1)", room.tip(1), 16000);
        CHECK.due("tip(2)", room.tip(2), 16);
    }

    private static void jointLength() {
        CHECK.promise("2: length, 0 to 200");
        for (int kind = TURN; kind <= SLIDE; kind++) {
            ArmRoom room = new ArmRoom();
            int known = kind;
            CHECK.refused("length -1 of " + kind, ARGUMENT, () -> room.joint(known, -1, 0, 0));
            CHECK.refused("length 201 of " + kind, ARGUMENT, () -> room.joint(known, 201, 0, 0));
            CHECK.refused("the least length of " + kind, ARGUMENT, () -> room.joint(known, LEAST, 0, 0));
            CHECK.refused("the greatest length of " + kind, ARGUMENT, () -> room.joint(known, MOST, 0, 0));
            CHECK.due("length 0 of " + kind, room.joint(kind, 0, 0, 0), 0);
            CHECK.due("tip(0) behind 0", room.tip(0), 0);
            CHECK.due("length 200 of " + kind, room.joint(kind, 200, 0, 0), 1);
            CHECK.due("tip(0) behind 200", room.tip(0), 200000);
        }
    }

    private static void jointLow() {
        CHECK.promise("2: low, -32 to 32 for TURN, 0 to 100 for SLIDE");
        ArmRoom room = new ArmRoom();
        CHECK.refused("low -33 of a turn", ARGUMENT, () -> room.joint(TURN, 5, -33, 0));
        CHECK.refused("low 33 of a turn", ARGUMENT, () -> room.joint(TURN, 5, 33, 33));
        CHECK.refused("low -1 of a slide", ARGUMENT, () -> room.joint(SLIDE, 5, -1, 0));
        CHECK.refused("low 101 of a slide", ARGUMENT, () -> room.joint(SLIDE, 5, 101, 101));
        CHECK.refused("the least low of a turn", ARGUMENT, () -> room.joint(TURN, 5, LEAST, 0));
        CHECK.refused("the least low of a slide", ARGUMENT, () -> room.joint(SLIDE, 5, LEAST, 0));
        CHECK.due("low -32 of a turn", room.joint(TURN, 5, -32, 0), 0);
        CHECK.due("low 32 of a turn", room.joint(TURN, 5, 32, 32), 1);
        CHECK.due("low 0 of a slide", room.joint(SLIDE, 5, 0, 0), 2);
        CHECK.due("low 100 of a slide", room.joint(SLIDE, 5, 100, 100), 3);
        CHECK.due("set(0, -32)", room.set(0, -32), 0);
        CHECK.due("value(1)", room.value(1), 32);
        CHECK.due("value(3)", room.value(3), 100);
    }

    private static void jointHigh() {
        CHECK.promise("2: high, low to 32, or to 100");
        ArmRoom room = new ArmRoom();
        CHECK.refused("high 33 of a turn", ARGUMENT, () -> room.joint(TURN, 5, 0, 33));
        CHECK.refused("high 100 of a turn", ARGUMENT, () -> room.joint(TURN, 5, 0, 100));
        CHECK.refused("high 101 of a slide", ARGUMENT, () -> room.joint(SLIDE, 5, 0, 101));
        CHECK.refused("high 9 below 10 of a turn", ARGUMENT, () -> room.joint(TURN, 5, 10, 9));
        CHECK.refused("high -10 below -9 of a turn", ARGUMENT, () -> room.joint(TURN, 5, -9, -10));
        CHECK.refused("high 9 below 10 of a slide", ARGUMENT, () -> room.joint(SLIDE, 5, 10, 9));
        CHECK.refused("the least high of a turn", ARGUMENT, () -> room.joint(TURN, 5, -32, LEAST));
        CHECK.refused("the greatest high of a turn", ARGUMENT, () -> room.joint(TURN, 5, -32, MOST));
        CHECK.refused("the greatest high of a slide", ARGUMENT, () -> room.joint(SLIDE, 5, 0, MOST));
        CHECK.due("high 32 of a turn", room.joint(TURN, 5, 0, 32), 0);
        CHECK.due("high as low, -32, of a turn", room.joint(TURN, 5, -32, -32), 1);
        CHECK.due("high 100 of a slide", room.joint(SLIDE, 5, 0, 100), 2);
        CHECK.due("high as low, 10, of a slide", room.joint(SLIDE, 5, 10, 10), 3);
        CHECK.due("set(0, 32)", room.set(0, 32), 0);
        CHECK.due("set(2, 100)", room.set(2, 100), 0);
    }

    private static void jointValue() {
        CHECK.promise("2: its value is 0, or the limit that is nearest to that");
        int[][] turns = {
            {0, 0, 0}, {-32, 32, 0}, {0, 32, 0}, {-32, 0, 0}, {-1, 0, 0}, {0, 1, 0}, {-1, 1, 0},
            {1, 1, 1}, {1, 32, 1}, {-1, -1, -1}, {-32, -1, -1}, {32, 32, 32}, {-32, -32, -32}
        };
        for (int[] row : turns) {
            ArmRoom room = Arms.of(new int[] {TURN, 5, row[0], row[1]});
            CHECK.due("value(0) of a turn from " + row[0] + " to " + row[1], room.value(0), row[2]);
            CHECK.due("tip(2) of it", room.tip(2), Math.floorMod(row[2], 64));
        }
        int[][] slides = {{0, 0, 0}, {0, 1, 0}, {0, 100, 0}, {1, 1, 1}, {1, 100, 1}, {100, 100, 100}};
        for (int[] row : slides) {
            ArmRoom room = Arms.of(new int[] {SLIDE, 5, row[0], row[1]});
            CHECK.due("value(0) of a slide from " + row[0] + " to " + row[1], room.value(0), row[2]);
            CHECK.due("tip(0) of it", room.tip(0), 5000 + 1000 * row[2]);
        }
    }

    private static void jointNumber() {
        CHECK.promise("2: returns its number; IllegalStateException if there are 5");
        ArmRoom room = new ArmRoom();
        for (int joint = 0; joint < 5; joint++) {
            CHECK.due("joint " + joint, room.joint(SLIDE, 0, joint, joint), joint);
        }
        CHECK.refused("a sixth turn", STATE, () -> room.joint(TURN, 5, 0, 0));
        CHECK.refused("a sixth slide", STATE, () -> room.joint(SLIDE, 200, 100, 100));
        CHECK.refused("a sixth of no kind", ARGUMENT, () -> room.joint(2, 5, 0, 0));
        CHECK.refused("a sixth too long", ARGUMENT, () -> room.joint(TURN, 201, 0, 0));
        CHECK.refused("a sixth too low", ARGUMENT, () -> room.joint(TURN, 5, -33, 0));
        CHECK.refused("a sixth too high", ARGUMENT, () -> room.joint(SLIDE, 5, 0, 101));
        CHECK.refused("a sixth the wrong way round", ARGUMENT, () -> room.joint(SLIDE, 5, 6, 5));
        for (int joint = 0; joint < 5; joint++) {
            CHECK.due("value(" + joint + ")", room.value(joint), joint);
        }
    }

    private static void set() {
        CHECK.promise("3: value, within its limits; returns the one before");
        ArmRoom room = Arms.of(new int[] {TURN, 10, -3, 7}, new int[] {SLIDE, 10, 20, 30});
        CHECK.refused("set(0, -4)", ARGUMENT, () -> room.set(0, -4));
        CHECK.due("set(0, -3)", room.set(0, -3), 0);
        CHECK.refused("set(0, 8)", ARGUMENT, () -> room.set(0, 8));
        CHECK.due("set(0, 7)", room.set(0, 7), -3);
        CHECK.due("set(0, 7) again", room.set(0, 7), 7);
        CHECK.refused("set(1, 19)", ARGUMENT, () -> room.set(1, 19));
        CHECK.due("set(1, 20)", room.set(1, 20), 20);
        CHECK.refused("set(1, 31)", ARGUMENT, () -> room.set(1, 31));
        CHECK.due("set(1, 30)", room.set(1, 30), 20);
        CHECK.due("value(0)", room.value(0), 7);
        CHECK.due("value(1)", room.value(1), 30);
        CHECK.refused("set(0, least)", ARGUMENT, () -> room.set(0, LEAST));
        CHECK.refused("set(0, greatest)", ARGUMENT, () -> room.set(0, MOST));
        // A direction is the same 64 parts on, but a value is not.
        CHECK.refused("set(0, 7 - 64)", ARGUMENT, () -> room.set(0, 7 - 64));
    }

    private static void setOneValue() {
        CHECK.promise("3: limits that leave one value, and the widest");
        int[] widest = {TURN, 10, -32, 32};
        ArmRoom room = Arms.of(new int[] {TURN, 10, 5, 5}, widest, new int[] {SLIDE, 10, 0, 100});
        CHECK.due("set(0, 5)", room.set(0, 5), 5);
        CHECK.refused("set(0, 4)", ARGUMENT, () -> room.set(0, 4));
        CHECK.refused("set(0, 6)", ARGUMENT, () -> room.set(0, 6));
        CHECK.due("set(1, 32)", room.set(1, 32), 0);
        CHECK.due("set(1, -32)", room.set(1, -32), 32);
        CHECK.refused("set(1, 33)", ARGUMENT, () -> room.set(1, 33));
        CHECK.refused("set(1, -33)", ARGUMENT, () -> room.set(1, -33));
        CHECK.due("value(1)", room.value(1), -32);
        CHECK.due("set(2, 100)", room.set(2, 100), 0);
        CHECK.due("set(2, 0)", room.set(2, 0), 100);
        CHECK.refused("set(2, 101)", ARGUMENT, () -> room.set(2, 101));
        CHECK.refused("set(2, -1)", ARGUMENT, () -> room.set(2, -1));
    }

    private static void setJoint() {
        CHECK.promise("3: IndexOutOfBoundsException if there is no such joint, ahead of the value");
        ArmRoom room = new ArmRoom();
        CHECK.refused("set(0, 0) without joints", INDEX, () -> room.set(0, 0));
        for (int joint = 0; joint < 5; joint++) {
            int next = joint;
            CHECK.refused("set(" + joint + ", 0) ahead of it", INDEX, () -> room.set(next, 0));
            room.joint(SLIDE, 1, 0, 9);
            CHECK.due("set(" + joint + ", 9)", room.set(joint, 9), 0);
        }
        int[] wrong = {-1, 5, LEAST, MOST};
        for (int joint : wrong) {
            CHECK.refused("set(" + joint + ", 0)", INDEX, () -> room.set(joint, 0));
            CHECK.refused("set(" + joint + ", 10)", INDEX, () -> room.set(joint, 10));
        }
        CHECK.due("tip(0)", room.tip(0), 50000);
    }

    private static void value() {
        CHECK.promise("4: IndexOutOfBoundsException if there is no such joint");
        ArmRoom room = new ArmRoom();
        for (int joint = 0; joint < 5; joint++) {
            int next = joint;
            CHECK.refused("value(" + joint + ") ahead of it", INDEX, () -> room.value(next));
            room.joint(SLIDE, 1, 10 + joint, 100);
            CHECK.due("value(" + joint + ")", room.value(joint), 10 + joint);
        }
        int[] wrong = {-1, 5, LEAST, MOST};
        for (int joint : wrong) {
            CHECK.refused("value(" + joint + ")", INDEX, () -> room.value(joint));
        }
        for (int joint = 0; joint < 5; joint++) {
            CHECK.due("value(" + joint + ") of five", room.value(joint), 10 + joint);
        }
    }

    private static void told() {
        CHECK.promise("5 and 6: what, 0 x, 1 y, 2 the heading");
        ArmRoom[] rooms = {new ArmRoom(), Arms.of(new int[] {TURN, 10, 8, 8})};
        int[] wrong = {-1, 3, LEAST, MOST};
        for (ArmRoom room : rooms) {
            for (int what : wrong) {
                CHECK.refused("tip(" + what + ")", ARGUMENT, () -> room.tip(what));
                CHECK.refused("tipAnew(" + what + ")", ARGUMENT, () -> room.tipAnew(what));
            }
        }
        int[] due = {7070, 7070, 8};
        for (int what = 0; what < 3; what++) {
            CHECK.due("tip(" + what + ") without joints", rooms[0].tip(what), 0);
            CHECK.due("tipAnew(" + what + ") without joints", rooms[0].tipAnew(what), 0);
            CHECK.due("tip(" + what + ")", rooms[1].tip(what), due[what]);
            CHECK.due("tipAnew(" + what + ")", rooms[1].tipAnew(what), due[what]);
        }
    }

    private static void tipAnewFromTheBack() {
        CHECK.promise("6: the heading of each being found by the values of all joints up to it");
        ArmRoom room = new ArmRoom();
        int[] x = {100000, 100000, 60000, 60000, 80000};
        int[] y = {0, 80000, 80000, 50000, 50000};
        for (int joint = 0; joint < 5; joint++) {
            room.joint(TURN, new int[] {100, 80, 40, 30, 20}[joint], -32, 32);
            room.set(joint, joint == 0 ? 0 : 16);
            CHECK.due("tipAnew(0) with " + (joint + 1), room.tipAnew(0), x[joint]);
            CHECK.due("tipAnew(1) with " + (joint + 1), room.tipAnew(1), y[joint]);
            CHECK.due("tipAnew(2) with " + (joint + 1), room.tipAnew(2), joint * 16 % 64);
        }
        room.set(0, -16);
        CHECK.due("tipAnew(0) turned back", room.tipAnew(0), 50000);
        CHECK.due("tipAnew(1) turned back", room.tipAnew(1), -80000);
        CHECK.due("tipAnew(2) turned back", room.tipAnew(2), 48);
        room.set(1, -16);
        CHECK.due("tipAnew(0) turned back twice", room.tipAnew(0), -80000 + 30000);
        CHECK.due("tipAnew(1) turned back twice", room.tipAnew(1), -100000 - 40000 + 20000);
        CHECK.due("tipAnew(2) turned back twice", room.tipAnew(2), 16);
    }

    private static void movesJoint() {
        CHECK.promise("7: IndexOutOfBoundsException if there is no such joint, ahead of what");
        ArmRoom room = new ArmRoom();
        for (int joint = 0; joint < 5; joint++) {
            int next = joint;
            CHECK.refused("moves(" + joint + ", 0) ahead of it", INDEX, () -> room.moves(next, 0));
            CHECK.refused("moves(" + joint + ", 2) ahead of it", INDEX, () -> room.moves(next, 2));
            room.joint(SLIDE, 1, 0, 9);
            CHECK.due("moves(" + joint + ", 0)", room.moves(joint, 0), 1000);
        }
        int[] wrong = {-1, 5, LEAST, MOST};
        for (int joint : wrong) {
            CHECK.refused("moves(" + joint + ", 1)", INDEX, () -> room.moves(joint, 1));
            CHECK.refused("moves(" + joint + ", -1)", INDEX, () -> room.moves(joint, -1));
        }
    }

    private static void movesWhat() {
        CHECK.promise("7: what, 0 for x, 1 for y");
        ArmRoom room = Arms.of(new int[] {SLIDE, 1, 0, 9}, new int[] {TURN, 0, 16, 16}, new int[] {SLIDE, 1, 0, 9});
        int[] wrong = {-1, 2, LEAST, MOST};
        for (int what : wrong) {
            CHECK.refused("moves(0, " + what + ")", ARGUMENT, () -> room.moves(0, what));
            CHECK.refused("moves(2, " + what + ")", ARGUMENT, () -> room.moves(2, what));
        }
        CHECK.due("moves(0, 0)", room.moves(0, 0), 1000);
        CHECK.due("moves(0, 1)", room.moves(0, 1), 0);
        CHECK.due("moves(2, 0)", room.moves(2, 0), 0);
        CHECK.due("moves(2, 1)", room.moves(2, 1), 1000);
    }

    private static void movesWhateverTheLimits() {
        CHECK.promise("7: as the value is more by 1, whatever its limits are");
        ArmRoom room = Arms.of(new int[] {TURN, 10, -32, 32});
        room.set(0, 32);
        CHECK.due("moves(0, 0) of a turn at 32", room.moves(0, 0), 10 * 5);
        CHECK.due("moves(0, 1) of a turn at 32", room.moves(0, 1), -10 * 98);
        CHECK.due("value(0)", room.value(0), 32);
        ArmRoom one = Arms.of(new int[] {TURN, 10, 0, 0});
        CHECK.due("moves(0, 0) of a turn with one value", one.moves(0, 0), -10 * 5);
        CHECK.due("moves(0, 1) of a turn with one value", one.moves(0, 1), 10 * 98);
        ArmRoom slide = Arms.of(new int[] {SLIDE, 200, 100, 100});
        CHECK.due("moves(0, 0) of a slide at 100", slide.moves(0, 0), 1000);
        CHECK.due("tip(0)", slide.tip(0), 300000);
        ArmRoom none = Arms.of(new int[] {TURN, 0, -32, 32});
        CHECK.due("moves(0, 0) of a turn without length", none.moves(0, 0), 0);
        CHECK.due("moves(0, 1) of a turn without length", none.moves(0, 1), 0);
        CHECK.due("tip(2)", none.tip(2), 0);
    }

    private static void movesOfFive() {
        CHECK.promise("7: a joint moves all that is behind it, and nothing ahead of it");
        ArmRoom room = new ArmRoom();
        for (int joint = 0; joint < 5; joint++) {
            room.joint(TURN, 100, -32, 32);
        }
        for (int joint = 0; joint < 5; joint++) {
            CHECK.due("moves(" + joint + ", 0)", room.moves(joint, 0), -(5 - joint) * 100 * 5);
            CHECK.due("moves(" + joint + ", 1)", room.moves(joint, 1), (5 - joint) * 100 * 98);
        }
        // Folded there and back: of the five, two lead along x and three against it.
        room.set(1, 32);
        room.set(2, 32);
        room.set(3, -32);
        CHECK.due("moves(0, 0) folded", room.moves(0, 0), 100 * 5);
        CHECK.due("moves(0, 1) folded", room.moves(0, 1), -100 * 98);
        CHECK.due("moves(1, 0) folded", room.moves(1, 0), 2 * 100 * 5);
        CHECK.due("moves(3, 1) folded", room.moves(3, 1), -2 * 100 * 98);
    }

    private static void freedomOfFew() {
        CHECK.promise("8: 0 with fewer than two joints");
        CHECK.due("freedom() without joints", new ArmRoom().freedom(), 0);
        CHECK.due("freedom() with a turn", Arms.of(new int[] {TURN, 200, -32, 32}).freedom(), 0);
        CHECK.due("freedom() with a slide", Arms.of(new int[] {SLIDE, 200, 0, 100}).freedom(), 0);
        ArmRoom two = Arms.of(new int[] {TURN, 0, 8, 8}, new int[] {SLIDE, 100, 0, 100});
        // The turn moves from (707, 707) to (634, 773), a hundred times; the slide by (707, 707).
        CHECK.due("freedom() with two", two.freedom(), 100L * (73 * 707 + 66 * 707));
    }

    private static void freedomOfAllTwo() {
        CHECK.promise("8: the greatest of all two joints");
        int[] slide = {SLIDE, 0, 0, 0};
        int[] turn = {TURN, 200, 0, 0};
        int[] upright = {TURN, 200, 16, 16};
        CHECK.due("freedom() by 0 and 1", Arms.of(turn, upright, slide, slide, slide).freedom(), 9629L * 200 * 200);
        CHECK.due("freedom() by 0 and 4", Arms.of(turn, slide, slide, slide, upright).freedom(), 9629L * 200 * 200);
        CHECK.due("freedom() by 3 and 4", Arms.of(slide, slide, slide, upright, slide).freedom(), 98L * 200 * 1000);
        CHECK.due("freedom() of five alike", Arms.of(slide, slide, slide, slide, slide).freedom(), 0);
    }

    private static void freedomByMore() {
        CHECK.promise("8: by the moves as the values are more by 1");
        ArmRoom room = Arms.of(new int[] {TURN, 100, 0, 0}, new int[] {TURN, 100, 8, 8});
        // Less by 1 would come to 6833 a piece.
        CHECK.due("freedom()", room.freedom(), 6824L * 100 * 100);
        ArmRoom back = Arms.of(new int[] {TURN, 100, 0, 0}, new int[] {TURN, 100, -8, -8});
        CHECK.due("freedom() the other way round", back.freedom(), 6833L * 100 * 100);
    }

    private static void freedomPastInts() {
        CHECK.promise("8: past the ints");
        int[] slide = {SLIDE, 200, 100, 100};
        // The moves: -53000 and 75900 by the first turn, -4000 and 78400 by the second.
        ArmRoom first = Arms.of(new int[] {TURN, 200, 16, 16}, slide, new int[] {TURN, 200, -16, -16}, slide, slide);
        CHECK.due("freedom(), x times y past them", first.freedom(), 53000L * 78400 - 75900L * 4000);
        // The moves: -80900 and 45000 by the first turn, -78400 and -4000 by the second.
        ArmRoom second = Arms.of(new int[] {TURN, 200, 0, 0}, slide, new int[] {TURN, 200, 16, 16}, slide, slide);
        CHECK.due("freedom(), y times x past them", second.freedom(), 80900L * 4000 + 45000L * 78400);
    }
}
