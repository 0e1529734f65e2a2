/** Promises 1 to 6: each boundary that they name, at it, just inside and just outside. */
public final class WorkerBoundaryTest {
    private static final int MIN = Integer.MIN_VALUE;
    private static final int MAX = Integer.MAX_VALUE;
    private static final Due DUE = new Due("workers' boundaries");
    private static final Refusal REFUSED = new Refusal(DUE);

    private WorkerBoundaryTest() { }

    public static void main(String[] args) {
        madeWithWorkers();
        madeWithSlack();
        madeWithRule();
        madeWithOneWrong();
        addForWhichWorker();
        addForWhichKey();
        addOfWhichNumber();
        addWhenHeld();
        for (int h = 0; h < 3; h++) {
            addWhenKept(h);
            advanceWhenKept(h);
        }
        addWhenConfirmedAreKept();
        addAfterCheckpoint();
        addToShardThatIsDown();
        advanceOfWhichWorker();
        advanceWhenHeld();
        advanceWhenConfirmedAreKept();
        advanceInOrderOfShards();
        advanceAfterCheckpoint();
        advanceWithShardsDown();
        readyForWhom();
        for (int slack = 0; slack <= 3; slack++) {
            readyWithinSlack(slack);
        }
        readyWithWhatIsUp();
        pullForWhom();
        pullOfWhatIsReady();
        clockOfWhom();
        DUE.close();
    }

    private static int workersOf(GradientShards x) {
        int workers = 0;
        while (workers < 10 && x.clock(workers) == 0) {
            workers++;
        }
        return workers;
    }

    /** The least clock of a worker that is held, less 1. */
    private static int slackOf(GradientShards x) {
        int advances = 0;
        while (advances < 10 && x.advance(0)) {
            advances++;
        }
        return advances - 1;
    }

    /** Told by the value after pushes of 10: -10, -5 and -58 by the rules 0, 1 and 2. */
    private static int ruleOf(GradientShards x) {
        x.add(0, 0, 10);
        for (int w = 0; w < 4; w++) {
            x.advance(w);
        }
        Play.settle(x);
        int value = x.pull(0, 0);
        return value == -10 ? 0 : value == -5 ? 1 : value == -58 ? 2 : -1;
    }

    private static void madeWithWorkers() {
        int[] given = {MIN, -1, 0, 1, 2, 3, 4, 5, MAX};
        int[] used = {2, 2, 2, 1, 2, 3, 4, 2, 2};
        for (int i = 0; i < given.length; i++) {
            GradientShards x = new GradientShards(given[i], 3, 2);
            DUE.is("1: workers " + given[i], workersOf(x), used[i]);
            DUE.is("1: kept of the last of " + given[i], x.kept(used[i] - 1, 2), 0);
            DUE.is("1: kept of none of " + given[i], x.kept(used[i], 2), -1);
        }
    }

    private static void madeWithSlack() {
        int[] given = {MIN, -1, 0, 1, 2, 3, 4, MAX};
        int[] used = {0, 0, 0, 1, 2, 3, 0, 0};
        for (int i = 0; i < given.length; i++) {
            DUE.is("1: slack " + given[i], slackOf(new GradientShards(2, given[i], 1)), used[i]);
            GradientShards x = new GradientShards(1, given[i], 0);
            Play.advance(x, 0, used[i]);
            DUE.yes("1: ready with slack " + given[i], x.ready(0, 0));
            x.advance(0);
            DUE.no("1: ready above slack " + given[i], x.ready(0, 0));
        }
    }

    private static void madeWithRule() {
        int[] given = {MIN, -1, 0, 1, 2, 3, MAX};
        int[] used = {0, 0, 0, 1, 2, 0, 0};
        for (int i = 0; i < given.length; i++) {
            DUE.is("1: rule " + given[i], ruleOf(new GradientShards(1, 0, given[i])), used[i]);
        }
    }

    private static void madeWithOneWrong() {
        DUE.is("1: (0, 3, 2): workers", workersOf(new GradientShards(0, 3, 2)), 2);
        DUE.is("1: (0, 3, 2): slack", slackOf(new GradientShards(0, 3, 2)), 3);
        DUE.is("1: (0, 3, 2): rule", ruleOf(new GradientShards(0, 3, 2)), 2);
        DUE.is("1: (4, -1, 1): workers", workersOf(new GradientShards(4, -1, 1)), 4);
        DUE.is("1: (4, -1, 1): slack", slackOf(new GradientShards(4, -1, 1)), 0);
        DUE.is("1: (4, -1, 1): rule", ruleOf(new GradientShards(4, -1, 1)), 1);
        DUE.is("1: (3, 2, 3): workers", workersOf(new GradientShards(3, 2, 3)), 3);
        DUE.is("1: (3, 2, 3): slack", slackOf(new GradientShards(3, 2, 3)), 2);
        DUE.is("1: (3, 2, 3): rule", ruleOf(new GradientShards(3, 2, 3)), 0);
        DUE.is("1: (5, 4, 3): workers", workersOf(new GradientShards(5, 4, 3)), 2);
        DUE.is("1: (5, 4, 3): slack", slackOf(new GradientShards(5, 4, 3)), 0);
        DUE.is("1: (5, 4, 3): rule", ruleOf(new GradientShards(5, 4, 3)), 0);
    }

    private static void addForWhichWorker() {
        for (int workers = 1; workers <= 4; workers++) {
            int last = workers - 1;
            GradientShards x = new GradientShards(workers, 0, 0);
            DUE.yes("2: worker 0 of " + workers, x.add(0, 0, 1));
            DUE.yes("2: the last worker of " + workers, x.add(last, 0, 1));
            DUE.is("2: which is told apart", x.packet(1), Play.data(last, 0, last == 0 ? 1 : 0));
            DUE.no("2: the one behind the last of " + workers, x.add(workers, 0, 1));
        }
        for (int w : Play.noWorkers(3)) {
            REFUSED.isFalse("2: add(" + w + ", 0, 1)", Play::busy, x -> x.add(w, 0, 1));
        }
    }

    private static void addForWhichKey() {
        GradientShards x = Play.busy();
        for (int k = 0; k < 6; k++) {
            DUE.yes("2: key " + k, x.add(0, k, 1));
        }
        for (int k : Play.NO_KEYS) {
            REFUSED.isFalse("2: add(0, " + k + ", 1)", Play::busy, y -> y.add(0, k, 1));
        }
    }

    private static void addOfWhichNumber() {
        for (int g : new int[] {-99, -98, -1, 0, 1, 98, 99}) {
            GradientShards x = new GradientShards(1, 0, 0);
            DUE.yes("2: add of " + g, x.add(0, 0, g));
            x.advance(0);
            Play.settle(x);
            DUE.is("2: which is pushed as " + g, x.pull(0, 0), -g);
        }
        for (int g : new int[] {MIN, -100, 100, MAX}) {
            REFUSED.isFalse("2: add(0, 0, " + g + ")", Play::busy, x -> x.add(0, 0, g));
        }
    }

    private static GradientShards aheadByTwo() {
        GradientShards x = new GradientShards(3, 1, 0);
        x.add(1, 1, 1);
        Play.advance(x, 1, 2);
        return x;
    }

    private static void addWhenHeld() {
        for (int k = 0; k < 6; k++) {
            int key = k;
            REFUSED.isFalse("2: add(1, " + k + ", 1), held", () -> aheadByTwo(), x -> x.add(1, key, 1));
        }
        DUE.yes("2: add of a worker that is not", aheadByTwo().add(2, 1, 1));
    }

    /** One worker that keeps so many messages on its link with shard h, and fewer on the others. */
    private static GradientShards keeping(int h, int messages) {
        GradientShards x = new GradientShards(1, 0, 0);
        Play.add(x, h + 3, Math.min(messages, 20));
        Play.advance(x, 0, messages - 20);
        return x;
    }

    private static void addWhenKept(int h) {
        GradientShards x = keeping(h, 19);
        DUE.is("2: kept", x.kept(0, h), 19);
        DUE.yes("2: add with 19 kept", x.add(0, h, 1));
        DUE.is("2: then 20 are kept", x.kept(0, h), 20);
        for (int kept = 20; kept <= 24; kept++) {
            int messages = kept;
            DUE.is("2: kept", keeping(h, kept).kept(0, h), kept);
            REFUSED.isFalse("2: add with " + kept + " kept", () -> keeping(h, messages), y -> y.add(0, h, 1));
            REFUSED.isFalse("2: add with " + kept + " kept, other key", () -> keeping(h, messages),
                y -> y.add(0, h + 3, 1));
            DUE.yes("2: add on another link", keeping(h, kept).add(0, (h + 1) % 3, 1));
        }
    }

    private static GradientShards keepingConfirmed(int messages) {
        GradientShards x = keeping(0, messages);
        for (int i = 0; i < 8; i++) {
            x.run(20);
        }
        return x;
    }

    private static void addWhenConfirmedAreKept() {
        DUE.is("2: all are confirmed", keepingConfirmed(20).unconfirmed(0, 0), 0);
        DUE.yes("2: add with 19 confirmed", keepingConfirmed(19).add(0, 0, 1));
        REFUSED.isFalse("2: add with 20 confirmed", () -> keepingConfirmed(20), x -> x.add(0, 0, 1));
        REFUSED.isFalse("2: add with 21 confirmed", () -> keepingConfirmed(21), x -> x.add(0, 0, 1));
    }

    private static void addAfterCheckpoint() {
        GradientShards x = new GradientShards(1, 0, 0);
        x.advance(0);
        Play.add(x, 0, 19);
        DUE.no("2: add with an END and 19 pushes", x.add(0, 0, 1));
        Play.settle(x);
        DUE.is("2: checkpoint(0)", x.checkpoint(0), 1);
        DUE.yes("2: add with 19 pushes", x.add(0, 0, 1));
        DUE.no("2: add with 20 pushes", x.add(0, 0, 1));
    }

    private static void addToShardThatIsDown() {
        GradientShards x = new GradientShards(1, 0, 0);
        x.kill(0);
        for (int i = 0; i < 20; i++) {
            DUE.yes("2: a worker does not know that the shard is down", x.add(0, 0, 1));
        }
        DUE.no("2: but keeps no more than 20", x.add(0, 0, 1));
        DUE.is("2: all are sent", x.packets(), 20);
    }

    private static void advanceOfWhichWorker() {
        for (int workers = 1; workers <= 4; workers++) {
            GradientShards x = new GradientShards(workers, 0, 0);
            DUE.no("3: the one behind the last of " + workers, x.advance(workers));
            DUE.yes("3: the last of " + workers, x.advance(workers - 1));
            DUE.is("3: its clock", x.clock(workers - 1), 1);
        }
        for (int w : Play.noWorkers(3)) {
            REFUSED.isFalse("3: advance(" + w + ")", Play::busy, x -> x.advance(w));
        }
    }

    private static void advanceWhenHeld() {
        REFUSED.isFalse("3: advance(1), held", () -> aheadByTwo(), x -> x.advance(1));
        GradientShards x = aheadByTwo();
        DUE.yes("3: advance(0)", x.advance(0));
        DUE.no("3: advance(1) with worker 2 behind", x.advance(1));
        DUE.yes("3: advance(2)", x.advance(2));
        DUE.yes("3: advance(1) at the slack", x.advance(1));
    }

    private static void advanceWhenKept(int h) {
        GradientShards x = keeping(h, 23);
        DUE.is("3: kept", x.kept(0, h), 23);
        DUE.yes("3: advance with 23 kept on link " + h, x.advance(0));
        DUE.is("3: then 24 are kept", x.kept(0, h), 24);
        DUE.is("3: fewer on another link", x.kept(0, (h + 1) % 3), 4);
        REFUSED.isFalse("3: advance with 24 kept on link " + h, () -> keeping(h, 24), y -> y.advance(0));
    }

    private static void advanceWhenConfirmedAreKept() {
        DUE.is("3: all are confirmed", keepingConfirmed(24).unconfirmed(0, 0), 0);
        DUE.yes("3: advance with 23 confirmed", keepingConfirmed(23).advance(0));
        REFUSED.isFalse("3: advance with 24 confirmed", () -> keepingConfirmed(24), x -> x.advance(0));
    }

    private static void advanceInOrderOfShards() {
        GradientShards x = new GradientShards(4, 0, 0);
        x.advance(3);
        DUE.is("3: packets()", x.packets(), 3);
        for (int h = 0; h < 3; h++) {
            DUE.is("3: END for shard " + h, x.packet(h), Play.data(3, h, 0));
            DUE.is("3: kept(3, " + h + ")", x.kept(3, h), 1);
        }
        DUE.is("3: clock(3)", x.clock(3), 1);
        DUE.is("3: clock(2)", x.clock(2), 0);
    }

    private static void advanceAfterCheckpoint() {
        GradientShards x = keepingConfirmed(24);
        DUE.no("3: advance before the checkpoint", x.advance(0));
        DUE.is("3: checkpoint(1), which is not the full link's", x.checkpoint(1), 4);
        DUE.no("3: advance after that", x.advance(0));
        DUE.is("3: checkpoint(0)", x.checkpoint(0), 24);
        DUE.yes("3: advance after the checkpoint", x.advance(0));
        DUE.is("3: kept(0, 0)", x.kept(0, 0), 1);
    }

    private static void advanceWithShardsDown() {
        GradientShards x = new GradientShards(1, 0, 0);
        for (int h = 0; h < 3; h++) {
            x.kill(h);
        }
        for (int i = 0; i < 24; i++) {
            DUE.yes("3: advance with all shards down", x.advance(0));
        }
        DUE.no("3: advance with 24 kept", x.advance(0));
        DUE.is("3: clock(0)", x.clock(0), 24);
    }

    private static void readyForWhom() {
        for (int workers = 1; workers <= 4; workers++) {
            GradientShards x = new GradientShards(workers, 0, 0);
            DUE.yes("4: the last of " + workers, x.ready(workers - 1, 0));
            DUE.no("4: the one behind the last of " + workers, x.ready(workers, 0));
        }
        for (int w : Play.noWorkers(3)) {
            REFUSED.isFalse("4: ready(" + w + ", 0)", Play::busy, x -> x.ready(w, 0));
        }
        for (int k : Play.NO_KEYS) {
            REFUSED.isFalse("4: ready(0, " + k + ")", Play::busy, x -> x.ready(0, k));
        }
        GradientShards x = new GradientShards(1, 0, 0);
        for (int k = 0; k < 6; k++) {
            DUE.yes("4: ready(0, " + k + ")", x.ready(0, k));
        }
    }

    private static void readyWithinSlack(int slack) {
        GradientShards x = new GradientShards(1, slack, 0);
        for (int clock = 0; clock <= slack; clock++) {
            DUE.yes("4: slack " + slack + ", clock " + clock + ", done 0", x.ready(0, 3));
            x.advance(0);
        }
        DUE.no("4: slack " + slack + ", clock one above it, done 0", x.ready(0, 3));
        x.deliver(0);
        DUE.is("4: done(0)", x.done(0), 1);
        DUE.yes("4: slack " + slack + ", clock one above it, done 1", x.ready(0, 3));
        DUE.no("4: another shard's key", x.ready(0, 4));
        x.advance(0);
        DUE.no("4: slack " + slack + ", clock two above it, done 1", x.ready(0, 3));
    }

    private static void readyWithWhatIsUp() {
        GradientShards x = new GradientShards(2, 0, 0);
        x.kill(1);
        for (int k = 0; k < 6; k++) {
            DUE.is("4: shard 1 down, key " + k, x.ready(1, k), k % 3 != 1);
        }
        x.recover(1);
        DUE.yes("4: shard 1 up, key 1", x.ready(1, 1));
        DUE.yes("4: shard 1 up, key 4", x.ready(1, 4));
        x.advance(0);
        DUE.no("4: worker 0 at clock 1", x.ready(0, 1));
        DUE.yes("4: worker 1 at clock 0", x.ready(1, 1));
    }

    private static void pullForWhom() {
        for (int w : Play.noWorkers(3)) {
            REFUSED.isAnswered("5: pull(" + w + ", 0)", Play::busy, x -> x.pull(w, 0), 0);
        }
        for (int k : Play.NO_KEYS) {
            REFUSED.isAnswered("5: pull(0, " + k + ")", Play::busy, x -> x.pull(0, k), 0);
        }
        GradientShards x = new GradientShards(2, 0, 0);
        for (int k = 0; k < 6; k++) {
            x.add(1, k, 10 + k);
        }
        x.advance(0);
        x.advance(1);
        Play.settle(x);
        for (int k = 0; k < 6; k++) {
            DUE.is("5: pull(0, " + k + ")", x.pull(0, k), -10 - k);
            DUE.is("5: pull(1, " + k + ")", x.pull(1, k), -10 - k);
            DUE.is("5: pull(2, " + k + ")", x.pull(2, k), 0);
        }
    }

    private static void pullOfWhatIsReady() {
        GradientShards x = new GradientShards(1, 1, 0);
        x.add(0, 0, 5);
        x.advance(0);
        DUE.is("5: clock 1, done 0", x.pull(0, 0), 0);
        Play.settle(x);
        DUE.is("5: clock 1, done 1", x.pull(0, 0), -5);
        x.advance(0);
        DUE.is("5: clock 2, done 1, within the slack", x.pull(0, 0), -5);
        x.advance(0);
        DUE.is("5: clock 3, done 1, above the slack", x.pull(0, 0), 0);
        x.deliver(0);
        DUE.is("5: clock 3, done 2", x.pull(0, 0), -5);
        x.kill(0);
        DUE.is("5: down", x.pull(0, 0), 0);
    }

    private static void clockOfWhom() {
        for (int workers = 1; workers <= 4; workers++) {
            GradientShards x = new GradientShards(workers, 0, 0);
            x.advance(0);
            DUE.is("6: clock(0) of " + workers, x.clock(0), 1);
            DUE.is("6: the last of " + workers, x.clock(workers - 1), workers == 1 ? 1 : 0);
            DUE.is("6: the one behind it", x.clock(workers), -1);
        }
        for (int w : Play.noWorkers(3)) {
            REFUSED.isMinusOne("6: clock(" + w + ")", Play::busy, x -> x.clock(w));
        }
        REFUSED.isAnswered("6: clock(2)", Play::busy, x -> x.clock(2), 1);
    }
}
