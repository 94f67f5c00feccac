/** Rooms made for tests. */
final class Arms {
    private Arms() { }

    /** A joint for each row: its kind, its length, its limits. */
    static ArmRoom of(int[]... joints) {
        ArmRoom room = new ArmRoom();
        for (int[] joint : joints) {
            room.joint(joint[0], joint[1], joint[2], joint[3]);
        }
        return room;
    }

    /** Slides without lengths, each with so many values from 0 on: the tip is at their sum. */
    static ArmRoom slides(int... counts) {
        ArmRoom room = new ArmRoom();
        for (int count : counts) {
            room.joint(ArmRoom.SLIDE, 0, 0, count - 1);
        }
        return room;
    }
}
