/** What can be seen of a room from outside, as one text. */
final class Sight {
    private static final int[] SLACKS = {100000, 20000};

    private final StringBuilder text = new StringBuilder();

    /** Some 70 of the 512 calls of a room; the last ones change it, to show what its pose does not. */
    static String usingUp(ArmRoom room) {
        Sight sight = new Sight();
        sight.pose(room);
        sight.goal(room);
        sight.branches(room);
        sight.rest(room);
        return sight.text.toString();
    }

    private void see(String name, Check.Call call) {
        text.append(name).append(' ').append(Check.outcome(call)).append('\n');
    }

    private void pose(ArmRoom room) {
        for (int joint = 0; joint <= 5; joint++) {
            int number = joint;
            see("value " + joint, () -> room.value(number));
            see("moves x " + joint, () -> room.moves(number, 0));
            see("moves y " + joint, () -> room.moves(number, 1));
        }
        for (int what = 0; what < 3; what++) {
            int told = what;
            see("tip " + what, () -> room.tip(told));
            see("tipAnew " + what, () -> room.tipAnew(told));
        }
        see("freedom", room::freedom);
    }

    private void goal(ArmRoom room) {
        see("far", room::far);
        see("hindrance", room::hindrance);
    }

    private void branches(ArmRoom room) {
        see("branches", room::branches);
        for (int joint = 0; joint < 5; joint++) {
            int number = joint;
            see("by FAR " + joint, () -> room.branch(0, ArmRoom.FAR, number));
            see("by WAY " + joint, () -> room.branch(1, ArmRoom.WAY, number));
            see("by HEADING " + joint, () -> room.branch(2, ArmRoom.HEADING, number));
        }
    }

    private void rest(ArmRoom room) {
        for (int slack : SLACKS) {
            see("the slack before " + slack, () -> room.slack(slack));
            see("branches by " + slack, room::branches);
        }
        see("steps", () -> room.steps(3));
        see("far behind steps", room::far);
        // The slide may be the sixth joint: then the exception shows that there are 5.
        see("one more joint", () -> room.joint(ArmRoom.SLIDE, 7, 1, 1));
        see("far with it", room::far);
        see("take", () -> room.take(0, ArmRoom.WAY));
        see("far behind take", room::far);
    }
}
