import java.util.Random;

/** Long runs of calls, drawn from fixed seeds, answered by the program and by the Model alike. */
public final class ModelTest {
    private static final int RUNS = 6000;
    private static final int CALLS = 512;
    private static final int KINDS = 20;
    private static final int[] EVEN = {4, 4, 3, 3, 1, 4, 1, 1, 2, 2, 1, 1, 1, 1, 1, 1, 1, 1, 1, 1};
    // Each row is a way of using the object, as the weights of the calls in the document's order.
    private static final int[][] WAYS = {
        EVEN,
        {60, 20, 10, 20, 2, 40, 2, 4, 10, 30, 1, 1, 8, 6, 3, 3, 3, 2, 6, 3},
        {60, 60, 10, 20, 2, 4, 1, 1, 6, 60, 0, 0, 12, 6, 3, 3, 3, 2, 3, 3},
        {30, 60, 10, 20, 2, 4, 4, 2, 20, 50, 6, 9, 3, 6, 3, 3, 3, 2, 3, 3},
        {60, 10, 5, 5, 2, 60, 20, 20, 20, 4, 2, 3, 3, 6, 6, 3, 3, 2, 6, 3},
        {10, 60, 20, 30, 2, 10, 0, 0, 4, 60, 2, 4, 0, 10, 3, 6, 3, 2, 3, 3},
        {90, 6, 2, 4, 2, 20, 10, 30, 20, 10, 0, 0, 1, 3, 3, 9, 3, 2, 3, 6},
        {30, 30, 10, 30, 2, 20, 20, 4, 30, 30, 3, 9, 9, 6, 3, 3, 3, 2, 3, 3},
        {50, 20, 5, 5, 1, 180, 0, 0, 12, 0, 0, 0, 30, 2, 2, 2, 2, 1, 2, 2},
    };
    // In the last of these ways, the oldest packets are left where they are for long.
    private static final int LINGERING = WAYS.length - 1;

    private static final Due DUE = new Due("model");
    // What the runs met: a call that never meets its edge would prove nothing.
    private static final String[] MET_NAMES = {
        "adds refused at 20 kept", "advances refused at 24 kept", "copies refused at 24 packets",
        "packets lost", "messages sent again", "doubles", "checkpoints with fewer kept",
        "recoveries after a checkpoint", "deliveries to a shard that is down", "early messages",
        "acks with news", "acks without news", "values that are not 0", "workers held",
        "doubles from long ago",
    };
    private static final int[] MET = new int[MET_NAMES.length];

    private ModelTest() { }

    public static void main(String[] args) {
        for (int run = 0; run < RUNS && !DUE.hasWrong(); run++) {
            oneRun(run);
        }
        for (int i = 0; i < MET.length && !DUE.hasWrong(); i++) {
            System.out.println("met: " + MET_NAMES[i] + ", " + MET[i] + " times");
            DUE.yes("the runs met " + MET_NAMES[i], MET[i] >= 20);
        }
        DUE.close();
    }

    private static void oneRun(int run) {
        Random random = new Random(run);
        int workers = random.nextInt(6);
        int slack = random.nextInt(6) - 1;
        int rule = random.nextInt(5) - 1;
        GradientShards x = new GradientShards(workers, slack, rule);
        Model m = new Model(workers, slack, rule);
        String made = "run " + run + " of (" + workers + ", " + slack + ", " + rule + ")";
        int way = run % WAYS.length;
        for (int call = 0; call < CALLS && !DUE.hasWrong(); call++) {
            int i = way == LINGERING ? drawYoung(random, m.packets()) : drawPacket(random, m.packets());
            oneCall(x, m, random, drawKind(random, WAYS[way]), i, made + ", call " + call + ": ");
        }
    }

    private static int drawKind(Random random, int[] way) {
        int all = 0;
        for (int weight : way) {
            all += weight;
        }
        int drawn = random.nextInt(all);
        int kind = 0;
        while (kind < KINDS - 1 && drawn >= way[kind]) {
            drawn -= way[kind];
            kind++;
        }
        return kind;
    }

    /** Mostly from 0 to below the bound, now and then just outside of it, seldom far outside. */
    private static int draw(Random random, int bound) {
        int luck = random.nextInt(60);
        if (luck == 0) {
            return random.nextInt();
        }
        if (luck == 1) {
            return random.nextBoolean() ? -1 : bound;
        }
        return random.nextInt(Math.max(1, bound));
    }

    private static int drawNumber(Random random) {
        int luck = random.nextInt(30);
        if (luck == 0) {
            return random.nextInt();
        }
        if (luck == 1) {
            return random.nextBoolean() ? 100 : -100;
        }
        return luck < 10 ? random.nextInt(199) - 99 : random.nextInt(21) - 5;
    }

    private static int drawPacket(Random random, int packets) {
        return random.nextInt(3) == 0 ? 0 : draw(random, packets);
    }

    /** Seldom one of the three oldest, so that they meet a link that has gone far since. */
    private static int drawYoung(Random random, int packets) {
        return packets > 3 && random.nextInt(30) > 0 ? 3 + random.nextInt(packets - 3) : random.nextInt(60);
    }

    private static void oneCall(GradientShards x, Model m, Random random, int kind, int i, String at) {
        int w = draw(random, m.workers);
        int h = draw(random, 3);
        int k = draw(random, 6);
        int g = drawNumber(random);
        meetBefore(m, kind, w, h, i);
        switch (kind) {
            case 0 -> DUE.is(at + "add(" + w + ", " + k + ", " + g + ")", x.add(w, k, g), m.add(w, k, g));
            case 1 -> DUE.is(at + "advance(" + w + ")", x.advance(w), m.advance(w));
            case 2 -> DUE.is(at + "ready(" + w + ", " + k + ")", x.ready(w, k), m.ready(w, k));
            case 3 -> pull(x, m, w, k, at);
            case 4 -> DUE.is(at + "clock(" + w + ")", x.clock(w), m.clock(w));
            case 5 -> deliver(x, m, i, at);
            case 6 -> DUE.is(at + "drop(" + i + ")", x.drop(i), m.drop(i));
            case 7 -> DUE.is(at + "copy(" + i + ")", x.copy(i), m.copy(i));
            case 8 -> DUE.is(at + "tick()", x.tick(), m.tick());
            case 9 -> run(x, m, draw(random, 21), at);
            case 10 -> DUE.is(at + "kill(" + h + ")", x.kill(h), m.kill(h));
            case 11 -> DUE.is(at + "recover(" + h + ")", x.recover(h), m.recover(h));
            case 12 -> checkpoint(x, m, h, at);
            case 13 -> DUE.is(at + "done(" + h + ")", x.done(h), m.done(h));
            case 14 -> early(x, m, h, at);
            case 15 -> DUE.is(at + "kept(" + w + ", " + h + ")", x.kept(w, h), m.kept(w, h));
            case 16 -> DUE.is(at + "unconfirmed(" + w + ", " + h + ")", x.unconfirmed(w, h), m.unconfirmed(w, h));
            case 17 -> DUE.is(at + "packets()", x.packets(), m.packets());
            case 18 -> DUE.is(at + "packet(" + i + ")", x.packet(i), m.packet(i));
            default -> count(x, m, draw(random, 6), at);
        }
    }

    private static void meetBefore(Model m, int kind, int w, int h, int i) {
        if (m.isWorker(w) && m.held(w)) {
            MET[13] += kind <= 1 ? 1 : 0;
        } else if (m.isWorker(w) && Model.isShard(h)) {
            MET[0] += kind == 0 && m.kept(w, h) >= 20 ? 1 : 0;
            MET[1] += kind == 1 && m.kept(w, h) == 24 ? 1 : 0;
        }
        MET[2] += kind == 7 && i >= 0 && i < 24 && m.packets() == 24 ? 1 : 0;
        MET[7] += kind == 11 && Model.isShard(h) && !m.up[h] && m.hasMadeCheckpoint(h) ? 1 : 0;
    }

    private static void pull(GradientShards x, Model m, int w, int k, String at) {
        int value = m.pull(w, k);
        DUE.is(at + "pull(" + w + ", " + k + ")", x.pull(w, k), value);
        MET[12] += value != 0 ? 1 : 0;
    }

    private static void deliver(GradientShards x, Model m, int i, String at) {
        boolean isOld = m.isFromLongAgo(i);
        int due = m.deliver(i);
        MET[14] += isOld && due == 2 ? 1 : 0;
        DUE.is(at + "deliver(" + i + ")", x.deliver(i), due);
        MET[8] += due == 3 ? 1 : 0;
        MET[10] += due == 4 ? 1 : 0;
        MET[11] += due == 5 ? 1 : 0;
    }

    private static void run(GradientShards x, Model m, int n, String at) {
        DUE.is(at + "run(" + n + ")", x.run(n), m.run(n));
    }

    private static void checkpoint(GradientShards x, Model m, int h, String at) {
        int due = m.checkpoint(h);
        DUE.is(at + "checkpoint(" + h + ")", x.checkpoint(h), due);
        MET[6] += due > 0 ? 1 : 0;
    }

    private static void early(GradientShards x, Model m, int h, String at) {
        int due = m.early(h);
        DUE.is(at + "early(" + h + ")", x.early(h), due);
        MET[9] += due > 0 ? 1 : 0;
    }

    private static void count(GradientShards x, Model m, int kind, String at) {
        int due = m.count(kind);
        DUE.is(at + "count(" + kind + ")", x.count(kind), due);
        if (kind >= 1 && kind <= 3) {
            MET[2 + kind] += due > 0 ? 1 : 0;
        }
    }
}
