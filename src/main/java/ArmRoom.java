/** A room for arms in the plane: joints and poses, steps towards a goal, and the poses that reach it. */
public final class ArmRoom {
    public static final int NONE = -1;
    public static final int TURN = 0, SLIDE = 1;
    public static final int FAR = 0, WAY = 1, HEADING = 2;

    private static final int TIP_X = 0, TIP_Y = 1, TIP_HEADING = 2;

    private static final int MOST_JOINTS = 5;
    private static final int LONGEST = 200;
    private static final int MOST_TURN = 32;
    private static final int MOST_SLIDE = 100;

    private static final int GOAL_EDGE = 1000000;
    private static final int FIRST_STRIDE = 8;
    private static final int MOST_STEPS = 200;

    private static final int FIRST_SLACK = 10000;
    private static final int MOST_SLACK = 100000;
    private static final int MOST_POSES = 40000;
    private static final int RANKS = 10;

    private static final int PARTS = 64;
    private static final int LAST_PART = 63;
    private static final int QUARTER = 16;
    private static final int HALF = 32;
    private static final int LAST_HALF_PART = 31;
    private static final int THOUSAND = 1000;

    /** The sines of the first quarter; the three others are these once more, turned round or below 0. */
    private static final int[] SINES = {
        0, 98, 195, 290, 383, 471, 556, 634, 707, 773, 831, 882, 924, 957, 981, 995, 1000
    };

    private final Arm arm;
    private final Goal goal;
    private final Tip now;
    private final Tip then;
    private final Search search;
    private final int[] movesX;
    private final int[] movesY;

    public ArmRoom() {
        arm = new Arm();
        goal = new Goal();
        now = new Tip();
        then = new Tip();
        search = new Search();
        movesX = new int[MOST_JOINTS];
        movesY = new int[MOST_JOINTS];
    }

    // ---- joints, poses

    public int joint(int kind, int length, int low, int high) throws IllegalArgumentException, IllegalStateException {
        if (kind != TURN && kind != SLIDE) {
            throw new IllegalArgumentException("no such kind");
        }
        if (length < 0 || length > LONGEST) {
            throw new IllegalArgumentException("length");
        }
        int least = kind == TURN ? -MOST_TURN : 0;
        int most = kind == TURN ? MOST_TURN : MOST_SLIDE;
        if (low < least || high > most || low > high) {
            throw new IllegalArgumentException("limits");
        }
        if (arm.isFull()) {
            throw new IllegalStateException("no more joints");
        }
        return arm.add(kind, length, low, high);
    }

    public int set(int joint, int value) throws IndexOutOfBoundsException, IllegalArgumentException {
        checkJoint(joint);
        if (value < arm.lows[joint] || value > arm.highs[joint]) {
            throw new IllegalArgumentException("beyond the limits");
        }
        int before = arm.values[joint];
        arm.values[joint] = value;
        return before;
    }

    public int value(int joint) throws IndexOutOfBoundsException {
        checkJoint(joint);
        return arm.values[joint];
    }

    public int tip(int what) throws IllegalArgumentException {
        checkTold(what, TIP_HEADING);
        now.follow(arm);
        return now.told(what);
    }

    public int tipAnew(int what) throws IllegalArgumentException {
        checkTold(what, TIP_HEADING);
        then.followBack(arm);
        return then.told(what);
    }

    public int moves(int joint, int what) throws IndexOutOfBoundsException, IllegalArgumentException {
        checkJoint(joint);
        checkTold(what, TIP_Y);
        now.follow(arm);
        then.followWith(arm, joint, arm.values[joint] + 1);
        return then.told(what) - now.told(what);
    }

    public long freedom() {
        findMoves();
        long greatest = 0;
        for (int one = 0; one < arm.count; one++) {
            for (int other = one + 1; other < arm.count; other++) {
                long across = (long) movesX[one] * movesY[other] - (long) movesY[one] * movesX[other];
                greatest = Math.max(greatest, Math.abs(across));
            }
        }
        return greatest;
    }

    // ---- goals

    public long goal(int x, int y) throws IllegalArgumentException {
        if (x < -GOAL_EDGE || x > GOAL_EDGE || y < -GOAL_EDGE || y > GOAL_EDGE) {
            throw new IllegalArgumentException("too far out");
        }
        goal.x = x;
        goal.y = y;
        return farNow();
    }

    public long far() {
        return farNow();
    }

    public int steps(int most) throws IllegalArgumentException {
        if (most < 1 || most > MOST_STEPS) {
            throw new IllegalArgumentException("how many steps");
        }
        int done = 0;
        for (int stride = FIRST_STRIDE; stride >= 1; stride /= 2) {
            while (done < most && stepped(stride)) {
                done++;
            }
        }
        return done;
    }

    public int hindrance() {
        long least = farNow();
        for (int joint = 0; joint < arm.count; joint++) {
            int value = arm.values[joint];
            if (value == arm.highs[joint] && farWith(joint, value + 1) < least) {
                return joint;
            }
            if (value == arm.lows[joint] && farWith(joint, value - 1) < least) {
                return joint;
            }
        }
        return NONE;
    }

    // ---- branches

    public int slack(int slack) throws IllegalArgumentException {
        if (slack < 0 || slack > MOST_SLACK) {
            throw new IllegalArgumentException("slack");
        }
        int before = goal.slack;
        goal.slack = slack;
        return before;
    }

    public int branches() throws IllegalStateException {
        if (arm.countPoses() > MOST_POSES) {
            throw new IllegalStateException("too many poses");
        }
        search.run(arm, goal, FAR);
        return search.ranking.found;
    }

    public int branch(int rank, int by, int joint)
            throws IndexOutOfBoundsException, IllegalArgumentException, IllegalStateException {
        checkJoint(joint);
        findBranch(rank, by);
        return search.ranking.valueOf(rank, joint);
    }

    public long take(int rank, int by)
            throws IndexOutOfBoundsException, IllegalArgumentException, IllegalStateException {
        findBranch(rank, by);
        for (int joint = 0; joint < arm.count; joint++) {
            arm.values[joint] = search.ranking.valueOf(rank, joint);
        }
        return farNow();
    }

    // ---- what the calls share

    private void checkJoint(int joint) {
        if (joint < 0 || joint >= arm.count) {
            throw new IndexOutOfBoundsException("no such joint");
        }
    }

    private static void checkTold(int what, int most) {
        if (what < TIP_X || what > most) {
            throw new IllegalArgumentException("what is told");
        }
    }

    private long farNow() {
        now.follow(arm);
        return goal.farFrom(now.x, now.y);
    }

    private long farWith(int joint, int value) {
        then.followWith(arm, joint, value);
        return goal.farFrom(then.x, then.y);
    }

    private void findMoves() {
        now.follow(arm);
        for (int joint = 0; joint < arm.count; joint++) {
            then.followWith(arm, joint, arm.values[joint] + 1);
            movesX[joint] = then.x - now.x;
            movesY[joint] = then.y - now.y;
        }
    }

    private boolean stepped(int stride) {
        long least = farNow();
        int best = NONE;
        int bestValue = 0;
        for (int joint = 0; joint < arm.count; joint++) {
            // Less comes ahead of more, and only what is less far takes over: so the first of equals stays.
            for (int side = -1; side <= 1; side += 2) {
                int value = arm.held(joint, arm.values[joint] + side * stride);
                long far = farWith(joint, value);
                if (far < least) {
                    least = far;
                    best = joint;
                    bestValue = value;
                }
            }
        }
        if (best == NONE) {
            return false;
        }
        arm.values[best] = bestValue;
        return true;
    }

    /** Ranks the branches, once it is sure that the one of the rank is there. */
    private void findBranch(int rank, int by) {
        if (rank < 0 || rank >= RANKS) {
            throw new IndexOutOfBoundsException("no such rank");
        }
        boolean few = arm.countPoses() <= MOST_POSES;
        if (few) {
            // A branch that is not there goes ahead of a wrong by, so the search takes any by.
            search.run(arm, goal, by);
            if (rank >= search.ranking.found) {
                throw new IndexOutOfBoundsException("no such branch");
            }
        }
        if (by < FAR || by > HEADING) {
            throw new IllegalArgumentException("ranked by what");
        }
        if (!few) {
            throw new IllegalStateException("too many poses");
        }
    }

    private static int sine(int direction) {
        int part = direction & LAST_HALF_PART;
        int size = SINES[part <= QUARTER ? part : HALF - part];
        return (direction & HALF) == 0 ? size : -size;
    }

    private static int cosine(int direction) {
        return sine(direction + QUARTER);
    }

    /** The joints of an arm by their numbers, and the pose of now. */
    private static final class Arm {
        private final int[] kinds = new int[MOST_JOINTS];
        private final int[] lengths = new int[MOST_JOINTS];
        private final int[] lows = new int[MOST_JOINTS];
        private final int[] highs = new int[MOST_JOINTS];
        private final int[] values = new int[MOST_JOINTS];
        private int count;

        private boolean isFull() {
            return count >= MOST_JOINTS;
        }

        private int add(int kind, int length, int low, int high) {
            int joint = count;
            kinds[joint] = kind;
            lengths[joint] = length;
            lows[joint] = low;
            highs[joint] = high;
            values[joint] = held(joint, 0);
            count++;
            return joint;
        }

        private int held(int joint, int value) {
            return Math.max(lows[joint], Math.min(highs[joint], value));
        }

        private int turnOf(int joint, int value) {
            return kinds[joint] == TURN ? value : 0;
        }

        private int distanceOf(int joint, int value) {
            return kinds[joint] == TURN ? lengths[joint] : lengths[joint] + value;
        }

        private int headingAt(int joint) {
            int heading = 0;
            for (int upTo = 0; upTo <= joint; upTo++) {
                heading += turnOf(upTo, values[upTo]);
            }
            return heading & LAST_PART;
        }

        private long countPoses() {
            long poses = 1;
            for (int joint = 0; joint < count; joint++) {
                poses *= highs[joint] - lows[joint] + 1;
            }
            return poses;
        }
    }

    /** A place in thousandths, and the direction in which it heads. */
    private static final class Tip {
        private int x;
        private int y;
        private int heading;

        private void start() {
            x = 0;
            y = 0;
            heading = 0;
        }

        private void go(int distance, int direction) {
            x += distance * cosine(direction);
            y += distance * sine(direction);
        }

        private void follow(Arm arm) {
            followWith(arm, NONE, 0);
        }

        /** Goes along the joints, of which one has another value than now. */
        private void followWith(Arm arm, int other, int otherValue) {
            start();
            for (int joint = 0; joint < arm.count; joint++) {
                int value = joint == other ? otherValue : arm.values[joint];
                heading = (heading + arm.turnOf(joint, value)) & LAST_PART;
                go(arm.distanceOf(joint, value), heading);
            }
        }

        private void followBack(Arm arm) {
            start();
            for (int joint = arm.count - 1; joint >= 0; joint--) {
                go(arm.distanceOf(joint, arm.values[joint]), arm.headingAt(joint));
            }
            heading = arm.headingAt(arm.count - 1);
        }

        private int told(int what) {
            if (what == TIP_X) {
                return x;
            }
            return what == TIP_Y ? y : heading;
        }
    }

    /** The point that is wanted, and how far off x and y of a branch may be. */
    private static final class Goal {
        private int x;
        private int y;
        private int slack = FIRST_SLACK;

        private long farFrom(int tipX, int tipY) {
            long offX = (long) tipX - x;
            long offY = (long) tipY - y;
            return offX * offX + offY * offY;
        }

        private boolean isWithin(int most, int tipX, int tipY) {
            return Math.abs(tipX - x) <= most && Math.abs(tipY - y) <= most;
        }
    }

    /** Goes through all poses by rising values, the joint 0 first, and ranks those that are branches. */
    private static final class Search {
        private final Ranking ranking = new Ranking();
        private final int[] pose = new int[MOST_JOINTS];
        private final int[] reach = new int[MOST_JOINTS + 1];

        // Where the values of the pose lead to ahead of each joint; the last row is behind all joints.
        private final int[] xs = new int[MOST_JOINTS + 1];
        private final int[] ys = new int[MOST_JOINTS + 1];
        private final int[] headings = new int[MOST_JOINTS + 1];
        private final int[] ways = new int[MOST_JOINTS + 1];

        private void run(Arm arm, Goal goal, int by) {
            ranking.clear();
            findReach(arm, goal);
            // Without joints there is a pose, but the document has no branch then.
            if (arm.count > 0) {
                goThrough(this, arm, goal, by, 0);
            }
        }

        /** How far off x or y may be ahead of each joint, for a branch to lie behind it. */
        private void findReach(Arm arm, Goal goal) {
            reach[arm.count] = goal.slack;
            for (int joint = arm.count - 1; joint >= 0; joint--) {
                reach[joint] = reach[joint + 1] + THOUSAND * arm.distanceOf(joint, arm.highs[joint]);
            }
        }

        private static void goThrough(Search search, Arm arm, Goal goal, int by, int joint) {
            if (joint > arm.count || !goal.isWithin(search.reach[joint], search.xs[joint], search.ys[joint])) {
                return;
            }
            if (joint == arm.count) {
                search.ranking.add(search.keyOf(arm, goal, by), search.pose);
                return;
            }
            for (int value = arm.lows[joint]; value <= arm.highs[joint]; value++) {
                search.lead(arm, joint, value);
                goThrough(search, arm, goal, by, joint + 1);
            }
        }

        private void lead(Arm arm, int joint, int value) {
            int heading = (headings[joint] + arm.turnOf(joint, value)) & LAST_PART;
            int distance = arm.distanceOf(joint, value);
            pose[joint] = value;
            xs[joint + 1] = xs[joint] + distance * cosine(heading);
            ys[joint + 1] = ys[joint] + distance * sine(heading);
            headings[joint + 1] = heading;
            ways[joint + 1] = ways[joint] + Math.abs(value - arm.values[joint]);
        }

        private long keyOf(Arm arm, Goal goal, int by) {
            int last = arm.count;
            if (by == FAR) {
                return goal.farFrom(xs[last], ys[last]);
            }
            if (by == WAY) {
                return ways[last];
            }
            int apart = (headings[last] - arm.headingAt(last - 1)) & LAST_PART;
            return Math.min(apart, PARTS - apart);
        }
    }

    /** The first branches, by the least keys, and how many branches there were in all. */
    private static final class Ranking {
        private final long[] keys = new long[RANKS];
        private final int[] rows = new int[RANKS * MOST_JOINTS];
        private int found;

        private void clear() {
            found = 0;
        }

        /** Puts a pose behind all of the same key, as poses come in the order that decides between those. */
        private void add(long key, int[] pose) {
            int place = Math.min(found, RANKS);
            found++;
            while (place > 0 && keys[place - 1] > key) {
                place--;
                moveDown(place);
            }
            if (place < RANKS) {
                keys[place] = key;
                System.arraycopy(pose, 0, rows, place * MOST_JOINTS, MOST_JOINTS);
            }
        }

        private void moveDown(int place) {
            if (place + 1 < RANKS) {
                keys[place + 1] = keys[place];
                System.arraycopy(rows, place * MOST_JOINTS, rows, (place + 1) * MOST_JOINTS, MOST_JOINTS);
            }
        }

        private int valueOf(int rank, int joint) {
            return rows[rank * MOST_JOINTS + joint];
        }
    }
}
