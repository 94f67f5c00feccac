import java.util.ArrayList;
import java.util.Comparator;
import java.util.List;

/** What the document says, done in the slowest and plainest way, to hold the program's answers against. */
final class Model {
    private record Joint(int kind, int length, int low, int high) { }

    private final List<Joint> joints = new ArrayList<>();
    private int[] values = {};
    private long goalX;
    private long goalY;
    private int slack = 10000;

    int size() {
        return joints.size();
    }

    int low(int joint) {
        return joints.get(joint).low;
    }

    int high(int joint) {
        return joints.get(joint).high;
    }

    long joint(int kind, int length, int low, int high) {
        int least = kind == 0 ? -32 : 0;
        int most = kind == 0 ? 32 : 100;
        if (kind < 0 || kind > 1 || length < 0 || length > 200 || low < least || high > most || high < low) {
            throw new IllegalArgumentException();
        }
        if (joints.size() == 5) {
            throw new IllegalStateException();
        }
        joints.add(new Joint(kind, length, low, high));
        values = java.util.Arrays.copyOf(values, joints.size());
        values[joints.size() - 1] = low > 0 ? low : high < 0 ? high : 0;
        return joints.size() - 1;
    }

    long set(int joint, int value) {
        long before = value(joint);
        if (value < low(joint) || value > high(joint)) {
            throw new IllegalArgumentException();
        }
        values[joint] = value;
        return before;
    }

    long value(int joint) {
        if (joint < 0 || joint >= joints.size()) {
            throw new IndexOutOfBoundsException();
        }
        return values[joint];
    }

    long tip(int what) {
        if (what < 0 || what > 2) {
            throw new IllegalArgumentException();
        }
        return tipOf(values)[what];
    }

    long moves(int joint, int what) {
        value(joint);
        if (what < 0 || what > 1) {
            throw new IllegalArgumentException();
        }
        return tipOf(with(joint, values[joint] + 1))[what] - tipOf(values)[what];
    }

    long freedom() {
        long greatest = 0;
        for (int one = 0; one < size(); one++) {
            for (int other = 0; other < size(); other++) {
                long across = moves(one, 0) * moves(other, 1) - moves(one, 1) * moves(other, 0);
                greatest = one != other && across > greatest ? across : greatest;
            }
        }
        return greatest;
    }

    long goal(int x, int y) {
        if (Math.max(Math.abs((long) x), Math.abs((long) y)) > 1000000) {
            throw new IllegalArgumentException();
        }
        goalX = x;
        goalY = y;
        return far();
    }

    long far() {
        return farOf(values);
    }

    long steps(int most) {
        if (most < 1 || most > 200) {
            throw new IllegalArgumentException();
        }
        int done = 0;
        int stride = 8;
        while (done < most) {
            int[] best = values;
            for (int joint = 0; joint < size(); joint++) {
                int[] less = with(joint, Math.max(low(joint), values[joint] - stride));
                int[] more = with(joint, Math.min(high(joint), values[joint] + stride));
                best = farOf(less) < farOf(best) ? less : best;
                best = farOf(more) < farOf(best) ? more : best;
            }
            if (best != values) {
                values = best;
                done++;
            } else if (stride == 1) {
                return done;
            } else {
                stride = stride / 2;
            }
        }
        return done;
    }

    long hindrance() {
        for (int joint = 0; joint < size(); joint++) {
            for (int other = values[joint] - 1; other <= values[joint] + 1; other += 2) {
                boolean beyond = other < low(joint) || other > high(joint);
                if (beyond && farOf(with(joint, other)) < far()) {
                    return joint;
                }
            }
        }
        return -1;
    }

    long slack(int wanted) {
        if (wanted < 0 || wanted > 100000) {
            throw new IllegalArgumentException();
        }
        int before = slack;
        slack = wanted;
        return before;
    }

    long branches() {
        if (poses() > 40000) {
            throw new IllegalStateException();
        }
        return allBranches().size();
    }

    long branch(int rank, int by, int joint) {
        value(joint);
        return ranked(rank, by)[joint];
    }

    long take(int rank, int by) {
        values = ranked(rank, by);
        return far();
    }

    double poses() {
        double poses = 1;
        for (Joint joint : joints) {
            poses *= joint.high - joint.low + 1;
        }
        return poses;
    }

    private int[] ranked(int rank, int by) {
        if (rank < 0 || rank > 9 || poses() <= 40000 && rank >= allBranches().size()) {
            throw new IndexOutOfBoundsException();
        }
        if (by < 0 || by > 2) {
            throw new IllegalArgumentException();
        }
        if (poses() > 40000) {
            throw new IllegalStateException();
        }
        List<int[]> branches = allBranches();
        Comparator<int[]> order = Comparator.comparingLong(pose -> keyOf(pose, by));
        branches.sort(order.thenComparing(java.util.Arrays::compare));
        return branches.get(rank);
    }

    private long keyOf(int[] pose, int by) {
        if (by == 0) {
            return farOf(pose);
        }
        if (by == 1) {
            long way = 0;
            for (int joint = 0; joint < size(); joint++) {
                way += Math.abs(pose[joint] - values[joint]);
            }
            return way;
        }
        long apart = Math.abs(tipOf(pose)[2] - tipOf(values)[2]);
        return apart > 32 ? 64 - apart : apart;
    }

    private List<int[]> allBranches() {
        List<int[]> found = new ArrayList<>();
        if (size() > 0) {
            addBranches(values.clone(), size() - 1, found);
        }
        return found;
    }

    /** From the last joint down, so that nothing comes in the order of the ranking by itself. */
    private void addBranches(int[] pose, int joint, List<int[]> found) {
        if (joint < 0) {
            long[] tip = tipOf(pose);
            if (Math.abs(tip[0] - goalX) <= slack && Math.abs(tip[1] - goalY) <= slack) {
                found.add(pose.clone());
            }
            return;
        }
        for (int value = high(joint); value >= low(joint); value--) {
            pose[joint] = value;
            addBranches(pose, joint - 1, found);
        }
    }

    private int[] with(int joint, int value) {
        int[] pose = values.clone();
        pose[joint] = value;
        return pose;
    }

    private long farOf(int[] pose) {
        long[] tip = tipOf(pose);
        return (tip[0] - goalX) * (tip[0] - goalX) + (tip[1] - goalY) * (tip[1] - goalY);
    }

    private long[] tipOf(int[] pose) {
        long x = 0;
        long y = 0;
        int heading = 0;
        for (int joint = 0; joint < size(); joint++) {
            boolean turns = joints.get(joint).kind == 0;
            heading += turns ? pose[joint] : 0;
            int distance = joints.get(joint).length + (turns ? 0 : pose[joint]);
            x += distance * Math.round(1000 * Math.cos(Math.PI * heading / 32));
            y += distance * Math.round(1000 * Math.sin(Math.PI * heading / 32));
        }
        return new long[] {x, y, Math.floorMod(heading, 64)};
    }
}
