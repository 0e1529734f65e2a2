/** Promises 1 to 6, sentence by sentence. */
public final class WorkerSentenceTest {
    private static final int MIN = Integer.MIN_VALUE;
    private static final int MAX = Integer.MAX_VALUE;
    private static final Due DUE = new Due("workers' sentences");
    private static final Refusal REFUSED = new Refusal(DUE);
    private static final Document DOCUMENT = new Document(DUE,
        "Promise 1: A new object", "Promise 2: add", "Promise 3: advance", "Promise 4: ready",
        "Promise 5: pull", "Promise 6: clock");

    private WorkerSentenceTest() { }

    public static void main(String[] args) {
        madeWith();
        addMakesPush();
        addIsRefused();
        advanceEndsClock();
        advanceIsRefused();
        readyToRead();
        pullValue();
        clockOfWorker();
        DOCUMENT.close();
    }

    private static int workersOf(GradientShards x) {
        int workers = 0;
        while (workers < 10 && x.clock(workers) == 0) {
            workers++;
        }
        return workers;
    }

    /** How far a worker's clock may be above what is done for it to read. */
    private static int slackOf(GradientShards x) {
        int advances = 0;
        while (advances < 10 && x.ready(0, 0)) {
            x.advance(0);
            advances++;
        }
        return advances - 1;
    }

    /** Told by the value after a sum of 10: -10, -5 and -58 by the rules 0, 1 and 2. */
    private static int ruleOf(GradientShards x) {
        x.add(0, 0, 10);
        endClockOfAll(x);
        int value = x.pull(0, 0);
        return value == -10 ? 0 : value == -5 ? 1 : value == -58 ? 2 : -1;
    }

    /** All workers end their clock and all packets arrive. */
    private static void endClockOfAll(GradientShards x) {
        for (int w = 0; w < 4; w++) {
            x.advance(w);
        }
        Play.settle(x);
    }

    private static void madeWith() {
        DOCUMENT.says("""
            W is workers if that is 1 .. 4, else 2; the slack is slack if that is 0 .. 3, else 0;
            the rule is rule if that is 0 .. 2, else 0.""");
        int[] given = {MIN, -2, -1, 0, 1, 2, 3, 4, 5, 6, MAX};
        for (int workers : given) {
            for (int slack : given) {
                for (int rule : given) {
                    madeWith(workers, slack, rule);
                }
            }
        }
    }

    private static void madeWith(int workers, int slack, int rule) {
        String name = "(" + workers + ", " + slack + ", " + rule + "): ";
        GradientShards x = new GradientShards(workers, slack, rule);
        DUE.is(name + "workers", workersOf(x), 1 <= workers && workers <= 4 ? workers : 2);
        DUE.is(name + "slack", slackOf(x), 0 <= slack && slack <= 3 ? slack : 0);
        GradientShards y = new GradientShards(workers, slack, rule);
        DUE.is(name + "rule", ruleOf(y), 0 <= rule && rule <= 2 ? rule : 0);
    }

    private static void addMakesPush() {
        DOCUMENT.says("Worker w makes a PUSH of g for key k on its link with the key's shard.");
        for (int workers = 1; workers <= 4; workers++) {
            for (int w = 0; w < workers; w++) {
                for (int k = 0; k < 6; k++) {
                    addMakesPush(workers, w, k, 17 * w - 9 * k);
                }
            }
        }
        for (int g = -99; g <= 99; g++) {
            addMakesPush(1, 0, 4, g);
        }
    }

    private static void addMakesPush(int workers, int w, int k, int g) {
        String name = "add(" + w + ", " + k + ", " + g + ") of " + workers + " workers: ";
        GradientShards x = new GradientShards(workers, 0, 0);
        DUE.yes(name + "answer", x.add(w, k, g));
        DUE.is(name + "packets()", x.packets(), 1);
        DUE.is(name + "packet(0)", x.packet(0), Play.data(w, k % 3, 0));
        for (int v = 0; v < workers; v++) {
            for (int h = 0; h < 3; h++) {
                int made = v == w && h == k % 3 ? 1 : 0;
                DUE.is(name + "kept(" + v + ", " + h + ")", x.kept(v, h), made);
                DUE.is(name + "unconfirmed(" + v + ", " + h + ")", x.unconfirmed(v, h), made);
            }
            DUE.is(name + "clock(" + v + ")", x.clock(v), 0);
        }
        endClockOfAll(x);
        for (int key = 0; key < 6; key++) {
            DUE.is(name + "pull(0, " + key + ")", x.pull(0, key), key == k ? -g : 0);
        }
    }

    /** Worker 1 is a clock ahead, which is more than the slack. */
    private static GradientShards withWorkerHeld() {
        GradientShards x = new GradientShards(2, 0, 1);
        x.add(0, 0, 1);
        x.add(1, 0, 1);
        x.advance(1);
        return x;
    }

    /** Worker 1 keeps so many messages on its link with shard 0, all of them confirmed if so said. */
    private static GradientShards keeping(int messages, boolean confirmed) {
        GradientShards x = new GradientShards(2, 3, 1);
        // Else worker 1 would be held when it has ended four clocks.
        x.advance(0);
        for (int i = 0; i < Math.min(messages, 20); i++) {
            x.add(1, 3 * (i % 2), i);
        }
        Play.advance(x, 1, messages - 20);
        for (int i = 0; confirmed && i < 8; i++) {
            x.run(20);
        }
        return x;
    }

    private static void addIsRefused() {
        DOCUMENT.says("""
            False, if there is no such worker or key, g is not -99 .. 99, the worker is held, or it
            keeps 20 or more messages (confirmed ones, too) on that link.""");
        for (int w : Play.noWorkers(3)) {
            REFUSED.isFalse("add(" + w + ", 4, 1)", Play::busy, x -> x.add(w, 4, 1));
        }
        for (int k : Play.NO_KEYS) {
            REFUSED.isFalse("add(1, " + k + ", 1)", Play::busy, x -> x.add(1, k, 1));
        }
        for (int g : new int[] {MIN, -100, 100, MAX}) {
            REFUSED.isFalse("add(1, 4, " + g + ")", Play::busy, x -> x.add(1, 4, g));
        }
        for (int k = 0; k < 6; k++) {
            int key = k;
            REFUSED.isFalse("held: add(1, " + k + ", 1)", () -> withWorkerHeld(), x -> x.add(1, key, 1));
            DUE.yes("not held: add(0, " + k + ", 1)", withWorkerHeld().add(0, k, 1));
        }
        for (int messages = 18; messages <= 24; messages++) {
            addWithKept(messages, false);
            addWithKept(messages, true);
        }
    }

    private static void addWithKept(int messages, boolean confirmed) {
        String name = messages + (confirmed ? " kept and confirmed: " : " kept: ");
        GradientShards made = keeping(messages, confirmed);
        DUE.is(name + "kept(1, 0)", made.kept(1, 0), messages);
        DUE.is(name + "unconfirmed(1, 0)", made.unconfirmed(1, 0), confirmed ? 0 : messages);
        DUE.yes(name + "add on another link", keeping(messages, confirmed).add(1, 1, 1));
        DUE.yes(name + "add of another worker", keeping(messages, confirmed).add(0, 0, 1));
        if (messages < 20) {
            DUE.yes(name + "add(1, 0, 1)", keeping(messages, confirmed).add(1, 0, 1));
            DUE.yes(name + "add(1, 3, 1)", keeping(messages, confirmed).add(1, 3, 1));
        } else {
            REFUSED.isFalse(name + "add(1, 0, 1)", () -> keeping(messages, confirmed), x -> x.add(1, 0, 1));
            REFUSED.isFalse(name + "add(1, 3, 1)", () -> keeping(messages, confirmed), x -> x.add(1, 3, 1));
        }
    }

    private static void advanceEndsClock() {
        DOCUMENT.says("""
            Worker w ends its clock: it makes an END on its links with the shards 0, 1, 2, in this
            order, and its clock grows by 1.""");
        for (int workers = 1; workers <= 4; workers++) {
            for (int w = 0; w < workers; w++) {
                advanceEndsClock(workers, w);
            }
        }
    }

    private static void advanceEndsClock(int workers, int w) {
        String name = "advance(" + w + ") of " + workers + " workers: ";
        GradientShards x = new GradientShards(workers, 0, 0);
        x.add(w, 4, 30);
        DUE.yes(name + "answer", x.advance(w));
        DUE.is(name + "packets()", x.packets(), 4);
        for (int h = 0; h < 3; h++) {
            DUE.is(name + "END for shard " + h, x.packet(1 + h), Play.data(w, h, h == 1 ? 1 : 0));
            DUE.is(name + "kept(" + w + ", " + h + ")", x.kept(w, h), h == 1 ? 2 : 1);
        }
        for (int v = 0; v < workers; v++) {
            DUE.is(name + "clock(" + v + ")", x.clock(v), v == w ? 1 : 0);
        }
        for (int v = 0; v < workers; v++) {
            DUE.yes(name + "advance(" + v + ") then", v == w || x.advance(v));
        }
        Play.settle(x);
        for (int h = 0; h < 3; h++) {
            DUE.is(name + "done(" + h + ")", x.done(h), 1);
        }
        DUE.is(name + "what was pushed belongs to the clock that has ended", x.pull(w, 4), -30);
    }

    private static void advanceIsRefused() {
        DOCUMENT.says("""
            False, if there is no such worker, it is held, or it keeps 24 messages on one of its
            links.""");
        for (int w : Play.noWorkers(3)) {
            REFUSED.isFalse("advance(" + w + ")", Play::busy, x -> x.advance(w));
        }
        REFUSED.isFalse("held: advance(1)", () -> withWorkerHeld(), x -> x.advance(1));
        DUE.yes("not held: advance(0)", withWorkerHeld().advance(0));
        for (boolean confirmed : new boolean[] {false, true}) {
            DUE.yes("22 kept: advance(1)", keeping(22, confirmed).advance(1));
            DUE.yes("23 kept: advance(1)", keeping(23, confirmed).advance(1));
        }
        for (int h = 0; h < 3; h++) {
            int shard = h;
            DUE.is("kept(0, " + h + ")", keepingAllAllowed(h).kept(0, h), 24);
            REFUSED.isFalse("24 kept on link " + h, () -> keepingAllAllowed(shard), x -> x.advance(0));
        }
    }

    /** A worker alone keeps 24 messages on its link with shard h, and 4 on the others. */
    private static GradientShards keepingAllAllowed(int h) {
        GradientShards x = new GradientShards(1, 0, 0);
        Play.add(x, h, 20);
        Play.advance(x, 0, 4);
        return x;
    }

    private static void readyToRead() {
        DOCUMENT.says("""
            Whether worker w can read key k: the shard of k is up and has done at least (clock of w
            - slack) clocks; false if there is no such worker or key.""");
        for (int slack = 0; slack <= 3; slack++) {
            for (int clock = 0; clock <= 6; clock++) {
                for (int done = 0; done <= clock; done++) {
                    readyToRead(slack, clock, done);
                }
            }
        }
        readyForEachWorker();
        for (int w : Play.noWorkers(3)) {
            REFUSED.isFalse("ready(" + w + ", 1)", Play::busy, x -> x.ready(w, 1));
        }
        for (int k : Play.NO_KEYS) {
            REFUSED.isFalse("ready(0, " + k + ")", Play::busy, x -> x.ready(0, k));
        }
    }

    /** A worker alone; shard 1 has done as many clocks as said, shard 0 all, shard 2 is down. */
    private static void readyToRead(int slack, int clock, int done) {
        String name = "slack " + slack + ", clock " + clock + ", done " + done + ": ";
        GradientShards x = new GradientShards(1, slack, 0);
        x.kill(2);
        Play.advance(x, 0, clock);
        for (int number = 0; number < clock; number++) {
            Play.deliverCode(x, Play.data(0, 0, number));
            if (number < done) {
                Play.deliverCode(x, Play.data(0, 1, number));
            }
        }
        DUE.is(name + "done(1)", x.done(1), done);
        for (int k = 0; k < 6; k++) {
            boolean can = k % 3 == 0 || k % 3 == 1 && done >= clock - slack;
            DUE.is(name + "ready(0, " + k + ")", x.ready(0, k), can);
        }
        x.recover(2);
        DUE.is(name + "ready(0, 2) when shard 2 is up again", x.ready(0, 2), clock <= slack);
    }

    private static void readyForEachWorker() {
        GradientShards x = new GradientShards(4, 2, 0);
        for (int w = 0; w < 4; w++) {
            Play.advance(x, w, Math.min(w, 3));
        }
        for (int w = 0; w < 4; w++) {
            DUE.is("worker " + w + " at clock " + w + ", slack 2, done 0", x.ready(w, 5), w <= 2);
        }
    }

    private static void pullValue() {
        DOCUMENT.says("The value that key k has on its shard, if worker w can read it; 0 if not.");
        GradientShards x = new GradientShards(3, 1, 0);
        for (int k = 0; k < 6; k++) {
            x.add(k % 3, k, 10 + k);
        }
        endClockOfAll(x);
        x.advance(2);
        x.advance(2);
        pullEach("clocks 1, 1 and 3, slack 1, done 1: ", x, 2);
        x.kill(1);
        for (int w = 0; w < 3; w++) {
            DUE.is("pull(" + w + ", 1) when shard 1 is down", x.pull(w, 1), 0);
            DUE.is("pull(" + w + ", 4) when shard 1 is down", x.pull(w, 4), 0);
        }
        x.recover(1);
        DUE.is("pull(0, 4) of shard 1 as it was at the beginning", x.pull(0, 4), 0);
        x.advance(0);
        x.advance(1);
        for (int i = 0; i < 4; i++) {
            x.run(20);
        }
        pullEach("clocks 2, 2 and 3, slack 1, done 2: ", x, 3);
    }

    private static void pullEach(String name, GradientShards x, int firstThatCannot) {
        for (int w = -1; w <= 4; w++) {
            boolean can = w >= 0 && w < firstThatCannot;
            for (int k = -1; k <= 6; k++) {
                int due = can && k >= 0 && k < 6 ? -10 - k : 0;
                DUE.is(name + "pull(" + w + ", " + k + ")", x.pull(w, k), due);
            }
        }
    }

    private static void clockOfWorker() {
        DOCUMENT.says("The clock of worker w; -1 if there is none.");
        GradientShards x = new GradientShards(4, 3, 0);
        for (int w = 0; w < 4; w++) {
            for (int clock = 0; clock < w; clock++) {
                DUE.is("clock(" + w + ")", x.clock(w), clock);
                x.advance(w);
            }
            DUE.is("clock(" + w + ") at last", x.clock(w), w);
        }
        Play.settle(x);
        x.kill(0);
        DUE.is("clock(3) does not hang on the shards", x.clock(3), 3);
        for (int workers = 1; workers <= 4; workers++) {
            for (int w : Play.noWorkers(workers)) {
                DUE.is("clock(" + w + ") of " + workers, new GradientShards(workers, 0, 0).clock(w), -1);
            }
        }
    }
}
