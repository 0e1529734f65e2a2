import java.util.ArrayList;
import java.util.Arrays;
import java.util.List;
import java.util.Random;

/** The document's sections 'What it is' and 'Terms', sentence by sentence. */
public final class TermsSentenceTest {
    private static final Due DUE = new Due("terms' sentences");
    private static final Refusal REFUSED = new Refusal(DUE);
    private static final Document DOCUMENT = new Document(DUE, "What it is", "Terms");

    private TermsSentenceTest() { }

    public static void main(String[] args) {
        everySectionHasItsTest();
        trainedTogether();
        usedForSoManyCalls();
        workersShardsKeys();
        timeAtFirst();
        clockAndHeld();
        linkForEach();
        numbersOfMessages();
        keptFromStart();
        confirmedAndUnconfirmed();
        netInOrder();
        kindsOfPackets();
        sendAsNewest();
        sentAtOnce();
        shardUpOrDown();
        takenAndTurn();
        earlyIfTurnOrMore();
        handledInOrder();
        doneByLeast();
        contributionAndSum();
        boundedAdditions();
        valueAndMemoryAtFirst();
        appliedOnceInOrder();
        rule0();
        rule1();
        rule2();
        checkpointHolds();
        checkpointAtFirst();
        refusedChangesNothing();
        DOCUMENT.close();
    }

    /** A section that is new in the document would else have no test. */
    private static void everySectionHasItsTest() {
        List<String> due = new ArrayList<>(List.of("What it is", "The public face", "Terms"));
        String[] names = {
            "A new object", "add", "advance", "ready", "pull", "clock", "deliver", "drop", "copy", "tick", "run",
            "kill", "recover", "checkpoint", "done", "early", "kept", "unconfirmed", "packets", "packet", "count",
        };
        for (int i = 0; i < names.length; i++) {
            due.add("Promise " + (i + 1) + ": " + names[i]);
        }
        due.add("Not promised");
        DUE.yes("the document's sections are " + due, Document.headings().equals(due));
    }

    private static void trainedTogether() {
        DOCUMENT.says("""
            Parameters on three shards that workers train together, clock by clock, over a net that
            loses, doubles and disorders packets: contributions are added up per clock and applied
            once all workers have ended it; a worker may run ahead by a slack; a shard that is killed
            comes back from its checkpoint and is told again what came after it.""");
        for (int seed = 0; seed < 400; seed++) {
            trainOverBadNet(seed);
        }
    }

    /** What the net does and which shards are killed makes no difference in the end. */
    private static void trainOverBadNet(int seed) {
        int workers = 1 + seed % 4;
        int slack = seed / 4 % 4;
        int rule = seed / 16 % 3;
        GradientShards x = new GradientShards(workers, slack, rule);
        Model overGoodNet = new Model(workers, slack, rule);
        Random random = new Random(seed);
        Caller trouble = new Caller(seed, workers, x);
        for (int i = 0; i < 60; i++) {
            int w = random.nextInt(workers);
            int k = random.nextInt(6);
            int g = random.nextInt(199) - 99;
            boolean ends = random.nextInt(3) == 0;
            if (ends ? x.advance(w) : x.add(w, k, g)) {
                DUE.yes("over a good net, too", ends ? overGoodNet.advance(w) : overGoodNet.add(w, k, g));
                settle(overGoodNet);
            }
            String[] troubles = {"deliver", "deliver", "drop", "copy", "tick", "kill", "recover", "checkpoint"};
            trouble.next(troubles[random.nextInt(troubles.length)]);
        }
        for (int h = 0; h < 3; h++) {
            x.recover(h);
        }
        for (int i = 0; i < 150; i++) {
            x.run(20);
        }
        String name = "seed " + seed + ": ";
        for (int h = 0; h < 3; h++) {
            DUE.is(name + "done(" + h + ")", x.done(h), overGoodNet.done(h));
        }
        for (int k = 0; k < 6; k++) {
            DUE.is(name + "pull(0, " + k + ")", x.pull(0, k), overGoodNet.pull(0, k));
        }
    }

    /** All packets arrive, and no more is kept than must be. */
    private static void settle(Model model) {
        while (model.packets() > 0) {
            model.deliver(0);
        }
        for (int h = 0; h < 3; h++) {
            model.checkpoint(h);
        }
    }

    private static void usedForSoManyCalls() {
        DOCUMENT.says("""
            An object is used for at most 512 calls after it has been made; what later calls answer
            is free.""");
        GradientShards x = new GradientShards(1, 0, 2);
        int value = 0;
        int memory = 0;
        // Eight calls each, so that the last ones are the 505th to the 512th.
        for (int clock = 1; clock <= 64; clock++) {
            DUE.yes("clock " + clock + ": add", x.add(0, 0, clock));
            DUE.yes("clock " + clock + ": advance", x.advance(0));
            DUE.is("clock " + clock + ": run", x.run(8), 8);
            DUE.is("clock " + clock + ": checkpoint(0)", x.checkpoint(0), 2);
            DUE.is("clock " + clock + ": checkpoint(1)", x.checkpoint(1), 1);
            DUE.is("clock " + clock + ": checkpoint(2)", x.checkpoint(2), 1);
            memory += clock * clock;
            value -= 64 * clock / (1 + (int) Math.sqrt(memory));
            DUE.is("clock " + clock + ": pull", x.pull(0, 0), value);
            DUE.is("clock " + clock + ": clock", x.clock(0), clock);
        }
        // What these answer is free, but none of them may fail.
        for (int seed = 0; seed < 3; seed++) {
            GradientShards old = new GradientShards(2, seed, seed);
            Caller caller = new Caller(seed, 2, old);
            for (int i = 0; i < 20000; i++) {
                caller.next();
                old.pull(0, i % 6);
            }
        }
    }

    private static void workersShardsKeys() {
        DOCUMENT.says("WORKERS 0 .. W - 1, SHARDS 0 .. 2, KEYS 0 .. 5; key k lies on shard k % 3.");
        for (int workers = 1; workers <= 4; workers++) {
            GradientShards x = new GradientShards(workers, 0, 0);
            for (int w = -1; w <= 5; w++) {
                boolean isWorker = w >= 0 && w < workers;
                DUE.is(workers + " workers: clock(" + w + ")", x.clock(w), isWorker ? 0 : -1);
                DUE.is(workers + " workers: ready(" + w + ", 0)", x.ready(w, 0), isWorker);
            }
        }
        GradientShards x = new GradientShards(1, 0, 0);
        for (int h = -1; h <= 3; h++) {
            DUE.is("done(" + h + ")", x.done(h), h >= 0 && h <= 2 ? 0 : -1);
        }
        for (int k = -1; k <= 6; k++) {
            boolean isKey = k >= 0 && k <= 5;
            DUE.is("ready(0, " + k + ")", x.ready(0, k), isKey);
            DUE.is("add(0, " + k + ", 1)", x.add(0, k, 1), isKey);
        }
        for (int k = 0; k < 6; k++) {
            DUE.is("key " + k + " lies on", x.packet(k), Play.data(0, k % 3, k / 3));
        }
        x.kill(1);
        for (int k = 0; k < 6; k++) {
            DUE.is("shard 1 is down: ready(0, " + k + ")", x.ready(0, k), k % 3 != 1);
        }
    }

    private static void timeAtFirst() {
        DOCUMENT.says("TIME is 0 at first.");
        GradientShards x = new GradientShards(1, 0, 0);
        x.add(0, 0, 1);
        for (int time = 1; time <= 3; time++) {
            DUE.is("sent at first, and the time is " + time, x.tick(), time == 3 ? 1 : 0);
        }
    }

    private static void clockAndHeld() {
        DOCUMENT.says("""
            Each worker has a CLOCK, the number of clocks that it has ended, 0 at first; it is HELD
            while its clock is more than the slack above the least clock of all workers.""");
        for (int seed = 0; seed < 100; seed++) {
            int workers = 1 + seed % 4;
            int slack = seed / 4 % 4;
            GradientShards x = new GradientShards(workers, slack, 0);
            Random random = new Random(seed);
            int[] clocks = new int[workers];
            for (int i = 0; i < 20; i++) {
                int w = random.nextInt(workers);
                boolean isHeld = clocks[w] - Arrays.stream(clocks).min().getAsInt() > slack;
                String name = "slack " + slack + ", clocks " + Arrays.toString(clocks) + ": ";
                DUE.is(name + "add(" + w + ", 0, 1)", x.add(w, 0, 1), !isHeld && x.kept(w, 0) < 20);
                DUE.is(name + "advance(" + w + ")", x.advance(w), !isHeld);
                clocks[w] += isHeld ? 0 : 1;
                for (int v = 0; v < workers; v++) {
                    DUE.is(name + "then clock(" + v + ")", x.clock(v), clocks[v]);
                }
                Play.settle(x);
                x.checkpoint(0);
            }
        }
    }

    private static void linkForEach() {
        DOCUMENT.says("There is a LINK for each worker and shard.");
        GradientShards x = new GradientShards(4, 0, 0);
        for (int w = 0; w < 4; w++) {
            for (int h = 0; h < 3; h++) {
                for (int i = 0; i < (w + 2 * h) % 5; i++) {
                    x.add(w, h, 1);
                }
            }
        }
        for (int w = 0; w < 4; w++) {
            for (int h = 0; h < 3; h++) {
                DUE.is("kept(" + w + ", " + h + ")", x.kept(w, h), (w + 2 * h) % 5);
                DUE.is("unconfirmed(" + w + ", " + h + ")", x.unconfirmed(w, h), (w + 2 * h) % 5);
            }
        }
    }

    private static void numbersOfMessages() {
        DOCUMENT.says("""
            A worker's messages on a link are numbered 0, 1, .. as they are made; a message is a
            PUSH of a number g for a key of that shard, or an END (the worker has ended its clock).""");
        GradientShards x = new GradientShards(2, 3, 0);
        int[] next = new int[3];
        for (int i = 0; i < 6; i++) {
            int h = i % 3;
            x.add(1, h + i / 3 * 3, 7 + i);
            DUE.is("PUSH number " + next[h], Play.newest(x), Play.data(1, h, next[h]));
            next[h]++;
            x.advance(1);
            x.advance(0);
            for (int shard = 0; shard < 3; shard++) {
                int at = x.packets() - 6 + shard;
                DUE.is("END number " + next[shard], x.packet(at), Play.data(1, shard, next[shard]));
                DUE.is("END of worker 0", x.packet(at + 3), Play.data(0, shard, i));
                next[shard]++;
            }
            Play.settle(x);
            DUE.is("the PUSH of " + (7 + i), x.pull(1, h + i / 3 * 3), -7 - i);
            DUE.is("the END", x.done(h), i + 1);
        }
    }

    private static void keptFromStart() {
        DOCUMENT.says("""
            The worker KEEPS its messages from a number on that is the link's START (0 at first).""");
        GradientShards x = new GradientShards(1, 3, 0);
        int start = 0;
        for (int made = 0; made < 30; made += 2) {
            DUE.is("START " + start + ", " + made + " made", x.kept(0, 0), made - start);
            x.add(0, 0, 1);
            x.advance(0);
            Play.settle(x);
            if (made % 6 == 4) {
                x.checkpoint(0);
                start = made + 2;
            }
        }
        x.kill(0);
        x.recover(0);
        Play.tick(x, 3);
        DUE.is("what is not kept never comes again", x.packets(), 0);
        GradientShards y = new GradientShards(1, 3, 0);
        y.advance(0);
        Play.settle(y);
        y.kill(0);
        y.recover(0);
        Play.tick(y, 3);
        DUE.is("what is kept can come again", y.packet(0), Play.data(0, 0, 0));
    }

    private static void confirmedAndUnconfirmed() {
        DOCUMENT.says("""
            The first CONFIRMED messages of a link (a number, 0 at first) are confirmed, the others,
            if any, UNCONFIRMED.""");
        for (int confirmed = 0; confirmed <= 5; confirmed++) {
            GradientShards x = new GradientShards(1, 0, 0);
            DUE.is("at first: unconfirmed(0, 0)", x.unconfirmed(0, 0), 0);
            Play.add(x, 0, 5);
            for (int i = 0; i < 5; i++) {
                x.deliver(0);
            }
            Play.deliverCode(x, Play.ack(0, 0, confirmed));
            Play.dropAll(x);
            DUE.is("CONFIRMED " + confirmed + ": unconfirmed(0, 0)", x.unconfirmed(0, 0), 5 - confirmed);
            Play.tick(x, 3);
            int due = confirmed == 5 ? -1 : Play.data(0, 0, confirmed);
            DUE.is("CONFIRMED " + confirmed + ": the first of the others", x.packet(0), due);
        }
    }

    private static void netInOrder() {
        DOCUMENT.says("""
            The net holds at most 24 packets, in the order in which they were put in; packet 0 is
            the oldest.""");
        GradientShards x = new GradientShards(4, 0, 0);
        List<Integer> due = new ArrayList<>();
        for (int i = 0; i < 30; i++) {
            int w = i * 7 % 4;
            int h = i * 5 % 3;
            int number = x.kept(w, h);
            x.add(w, h, 1);
            if (due.size() < 24) {
                due.add(Play.data(w, h, number));
            }
            DUE.is("packets()", x.packets(), due.size());
        }
        DUE.yes("24 in the order of the calls", Play.packets(x).equals(due));
        Random random = new Random(1);
        while (!due.isEmpty()) {
            int i = random.nextInt(due.size());
            x.drop(i);
            due.remove(i);
            DUE.yes("those that are left in the order of the calls", Play.packets(x).equals(due));
        }
    }

    private static void kindsOfPackets() {
        DOCUMENT.says("""
            A packet is a DATA packet of a link with the number of a message, or an ACK packet of a
            link with a number.""");
        GradientShards x = new GradientShards(3, 0, 0);
        for (int w = 0; w < 3; w++) {
            x.add(w, 1, 1);
            x.add(w, 4, 1);
        }
        for (int i = 0; i < 6; i++) {
            DUE.is("DATA", x.packet(i), Play.data(i / 2, 1, i % 2));
        }
        for (int i = 0; i < 6; i++) {
            DUE.is("DATA arrives", x.deliver(0), 1);
        }
        for (int i = 0; i < 6; i++) {
            DUE.is("ACK", x.packet(i), Play.ack(i / 2, 1, i % 2 + 1));
        }
        for (int i = 0; i < 6; i++) {
            DUE.is("ACK arrives", x.deliver(0), 4);
        }
    }

    private static void sendAsNewest() {
        DOCUMENT.says("To SEND a packet is to put it in as the newest; it is LOST if 24 are there.");
        for (int there = 1; there <= 24; there++) {
            GradientShards x = new GradientShards(1, 0, 0);
            x.add(0, 0, 1);
            Play.fill(x, there);
            List<Integer> before = Play.packets(x);
            x.add(0, 2, 1);
            if (there < 24) {
                before.add(Play.data(0, 2, 0));
            }
            DUE.yes(there + " are there: the newest", Play.packets(x).equals(before));
            DUE.is(there + " are there: lost", x.count(1), there < 24 ? 0 : 1);
            DUE.is(there + " are there: sent", x.count(0), there + 1);
        }
    }

    private static void sentAtOnce() {
        DOCUMENT.says("""
            A message that is made is sent as a data packet at once; its LATEST SENDING is the time
            of that, or when it was sent again, whether the packet was lost or not.""");
        for (int made = 0; made <= 3; made++) {
            latestSending(made, false);
            latestSending(made, true);
        }
    }

    /** Shard 0 is down, so that its message is sent again and again. */
    private static void latestSending(int made, boolean lost) {
        String name = "made at " + made + (lost ? " and always lost: " : ": ");
        GradientShards x = new GradientShards(1, 0, 0);
        x.kill(0);
        if (lost) {
            x.add(0, 1, 1);
            x.deliver(0);
            Play.fill(x, 24);
            DUE.is(name + "acks are there", x.packet(23), Play.ack(0, 1, 1));
            Play.deliverCode(x, Play.ack(0, 1, 1));
            Play.fill(x, 24);
        }
        Play.tick(x, made);
        x.add(0, 0, 1);
        DUE.is(name + "at once", Play.newest(x), lost ? Play.ack(0, 1, 1) : Play.data(0, 0, 0));
        for (int time = made + 1; time <= made + 10; time++) {
            DUE.is(name + "time " + time, x.tick(), (time - made) % 3 == 0 ? 1 : 0);
        }
        DUE.is(name + "lost", x.count(1), lost ? 4 : 0);
    }

    private static void shardUpOrDown() {
        DOCUMENT.says("A SHARD is up or down (up at first).");
        for (int h = 0; h < 3; h++) {
            GradientShards x = new GradientShards(1, 0, 0);
            DUE.no("up at first: recover(" + h + ")", x.recover(h));
            for (int i = 0; i < 3; i++) {
                DUE.is("up: done(" + h + ")", x.done(h), 0);
                DUE.yes("up: kill(" + h + ")", x.kill(h));
                DUE.is("down: done(" + h + ")", x.done(h), -1);
                DUE.is("the others: done", x.done((h + 1) % 3), 0);
                DUE.yes("down: recover(" + h + ")", x.recover(h));
            }
        }
    }

    private static void takenAndTurn() {
        DOCUMENT.says("""
            For each of its links it has TAKEN some messages (none at first); TURN is the number of
            that link's messages before the first one that it has not taken.""");
        int[] order = {4, 0, 2, 1, 5, 3};
        int[] turns = {0, 1, 1, 3, 3, 6};
        for (int w = 0; w < 2; w++) {
            GradientShards x = new GradientShards(2, 0, 0);
            for (int number = 0; number < 6; number++) {
                x.add(w, 2, 1);
                x.add(1 - w, 2, 1);
            }
            for (int i = 0; i < 6; i++) {
                DUE.is("number " + order[i], Play.deliverCode(x, Play.data(w, 2, order[i])), 1);
                DUE.is("number " + order[i] + ": TURN", Play.newest(x), Play.ack(w, 2, turns[i]));
            }
            DUE.is("none on the other link", Play.deliverCode(x, Play.data(1 - w, 2, 1)), 1);
            DUE.is("none on the other link: TURN", Play.newest(x), Play.ack(1 - w, 2, 0));
        }
    }

    private static void earlyIfTurnOrMore() {
        DOCUMENT.says("A message that is taken is EARLY if its number is TURN or more.");
        int[] order = {4, 0, 2, 1, 5, 3};
        int[] early = {1, 1, 2, 1, 2, 0};
        GradientShards x = new GradientShards(1, 0, 0);
        Play.add(x, 1, 6);
        DUE.is("none is taken: early(1)", x.early(1), 0);
        for (int i = 0; i < 6; i++) {
            Play.deliverCode(x, Play.data(0, 1, order[i]));
            DUE.is("number " + order[i] + ": early(1)", x.early(1), early[i]);
        }
    }

    /** The order decides, for what is added is bounded: 99, 60 and -80 make 19 in this order alone. */
    private static void handledInOrder() {
        DOCUMENT.says("What comes before TURN is HANDLED, in the order of the numbers.");
        int[][] orders = {{0, 1, 2, 3}, {0, 2, 1, 3}, {1, 0, 2, 3}, {1, 2, 0, 3}, {2, 0, 1, 3}, {2, 1, 0, 3},
            {3, 2, 1, 0}, {3, 0, 2, 1}, {1, 3, 0, 2}};
        for (int[] order : orders) {
            GradientShards x = new GradientShards(1, 1, 0);
            x.add(0, 0, 99);
            x.add(0, 0, 60);
            x.add(0, 0, -80);
            x.advance(0);
            for (int i = 0; i < 4; i++) {
                DUE.is(Arrays.toString(order) + ": done(0) before " + i, x.done(0), 0);
                DUE.is(Arrays.toString(order) + ": pull(0, 0) before " + i, x.pull(0, 0), 0);
                Play.deliverCode(x, Play.data(0, 0, order[i]));
            }
            DUE.is(Arrays.toString(order) + ": done(0)", x.done(0), 1);
            DUE.is(Arrays.toString(order) + ": pull(0, 0)", x.pull(0, 0), -19);
        }
    }

    private static void doneByLeast() {
        DOCUMENT.says("""
            The shard has DONE so many clocks as the least number of ENDs that it has handled of a
            worker.""");
        for (int seed = 0; seed < 100; seed++) {
            int workers = 1 + seed % 4;
            GradientShards x = new GradientShards(workers, 3, 0);
            for (int w = 0; w < workers; w++) {
                Play.advance(x, w, 2);
            }
            Random random = new Random(seed);
            int[] ends = new int[workers];
            for (int i = 0; i < 10; i++) {
                int w = random.nextInt(workers);
                ends[w] += Play.deliverCode(x, Play.data(w, 0, ends[w])) == 1 ? 1 : 0;
                DUE.is("ENDs " + Arrays.toString(ends) + ": done(0)", x.done(0), Arrays.stream(ends).min().getAsInt());
                DUE.is("no ENDs: done(1)", x.done(1), 0);
            }
        }
    }

    private static int bounded(int number) {
        return Math.max(-99, Math.min(99, number));
    }

    private static void contributionAndSum() {
        DOCUMENT.says("""
            For a clock c (the c-th, from 0) and a key, a worker's CONTRIBUTION is 0 with the numbers
            of its pushes for that key between its c-th END (from 1; from the beginning for c = 0)
            and its next one added one after the other; the SUM is 0 with the contributions of all
            workers added one after the other by ascending worker.""");
        for (int seed = 0; seed < 200; seed++) {
            sumsOfClocks(seed, 12, 1 + seed % 4);
        }
    }

    /** Three clocks of all workers, with numbers up to a greatest; by rule 0 the sums are seen. */
    private static void sumsOfClocks(int seed, int greatest, int workers) {
        Random random = new Random(seed);
        GradientShards x = new GradientShards(workers, 0, 0);
        int[] due = new int[6];
        for (int clock = 0; clock < 3; clock++) {
            int[][] contributions = new int[workers][6];
            for (int w = 0; w < workers; w++) {
                for (int i = random.nextInt(8); i > 0; i--) {
                    int k = random.nextInt(6);
                    int g = random.nextInt(2 * greatest + 1) - greatest;
                    x.add(w, k, g);
                    contributions[w][k] = bounded(contributions[w][k] + g);
                }
                x.advance(w);
                Play.settle(x);
            }
            for (int k = 0; k < 6; k++) {
                int sum = 0;
                for (int[] contribution : contributions) {
                    sum = bounded(sum + contribution[k]);
                }
                due[k] -= sum;
                DUE.is("seed " + seed + ", clock " + clock + ": pull(0, " + k + ")", x.pull(0, k), due[k]);
            }
        }
    }

    private static void boundedAdditions() {
        DOCUMENT.says("""
            After each single addition what is less than -99 becomes -99, and what is more than 99
            becomes 99.""");
        for (int seed = 0; seed < 200; seed++) {
            sumsOfClocks(seed, 99, 1 + seed % 4);
        }
        int[][] pushes = {{99, 1, -1}, {99, 99, -99}, {98, 1, -1}, {-99, -1, 1}, {-99, -99, 99}, {50, 50, -50}};
        int[] sums = {98, 0, 98, -98, 0, 49};
        for (int i = 0; i < pushes.length; i++) {
            GradientShards alone = new GradientShards(1, 0, 0);
            GradientShards three = new GradientShards(3, 0, 0);
            for (int w = 0; w < 3; w++) {
                alone.add(0, 3, pushes[i][w]);
                three.add(w, 3, pushes[i][w]);
                three.advance(w);
            }
            alone.advance(0);
            Play.settle(alone);
            Play.settle(three);
            DUE.is("one worker's " + Arrays.toString(pushes[i]), alone.pull(0, 3), -sums[i]);
            DUE.is("three workers' " + Arrays.toString(pushes[i]), three.pull(0, 3), -sums[i]);
        }
    }

    /** One clock of a worker alone, who pushes g for the key. */
    private static void clock(GradientShards x, int k, int g) {
        x.add(0, k, g);
        x.advance(0);
        Play.settle(x);
    }

    private static void valueAndMemoryAtFirst() {
        DOCUMENT.says("Each key has a VALUE and a MEMORY, both 0 at first.");
        int[] afterTen = {-10, -5, -58};
        for (int rule = 0; rule <= 2; rule++) {
            GradientShards x = new GradientShards(1, 0, rule);
            for (int k = 0; k < 6; k++) {
                DUE.is("rule " + rule + ", at first: pull(0, " + k + ")", x.pull(0, k), 0);
            }
            for (int k = 0; k < 6; k++) {
                GradientShards y = new GradientShards(1, 0, rule);
                clock(y, k, 10);
                for (int key = 0; key < 6; key++) {
                    DUE.is("rule " + rule + ": pull(0, " + key + ")", y.pull(0, key), key == k ? afterTen[rule] : 0);
                }
                int other = (k + 3) % 6;
                clock(y, other, 10);
                DUE.is("rule " + rule + ", a memory of its own: " + other, y.pull(0, other), afterTen[rule]);
            }
        }
    }

    private static void appliedOnceInOrder() {
        DOCUMENT.says("""
            A shard that has done a clock applies the sum G of each of its keys once, in the order
            of the clocks, by the RULE (quotients are Java's, towards 0):""");
        GradientShards x = new GradientShards(2, 3, 1);
        int[] numbers = {40, 0, -20};
        for (int g : numbers) {
            x.add(0, 0, g);
            x.add(0, 3, -g);
            x.advance(0);
        }
        Play.settle(x);
        DUE.is("worker 1 has ended none: done(0)", x.done(0), 0);
        DUE.is("worker 1 has ended none: pull(1, 0)", x.pull(1, 0), 0);
        // Memories 40, 30 and 3; then what is left of 3.
        int[] values = {-20, -35, -36, -37};
        Play.advance(x, 1, 3);
        for (int clock = 0; clock < 3; clock++) {
            x.copy(0);
            DUE.is("END " + clock, Play.deliverCode(x, Play.data(1, 0, clock)), 1);
            DUE.is("done(0)", x.done(0), clock + 1);
            DUE.is("pull(1, 0)", x.pull(1, 0), values[clock]);
            DUE.is("pull(1, 3)", x.pull(1, 3), -values[clock]);
        }
        Play.settle(x);
        DUE.yes("doubles came", x.count(3) > 0);
        DUE.is("doubles are applied no more: pull(1, 0)", x.pull(1, 0), values[2]);
        x.advance(0);
        x.advance(1);
        Play.settle(x);
        DUE.is("a sum of 0 is applied, too: pull(1, 0)", x.pull(1, 0), values[3]);
        DUE.is("a sum of 0 is applied, too: pull(1, 3)", x.pull(1, 3), -values[3]);
    }

    private static void rule0() {
        DOCUMENT.says("rule 0: value = value - G.");
        GradientShards x = new GradientShards(1, 0, 0);
        int value = 0;
        for (int g : new int[] {1, -1, 99, 99, -99, 0, 50, -7}) {
            clock(x, 2, g);
            value = value - g;
            DUE.is("after " + g, x.pull(0, 2), value);
        }
    }

    private static void rule1() {
        DOCUMENT.says("rule 1: memory = memory - memory / 4 + G, then value = value - memory / 2.");
        int[][] clocks = {{1, 1, 1, 1, 1, 1, 1, 1}, {-1, -1, -1, -1, -1}, {7, -7, 3, 0, 0, 0}, {99, 99, 99, 99, 99},
            {-99, -99, -99, 50, 50}, {5, 0, 0, -13, 0, 0, 0}};
        for (int[] numbers : clocks) {
            GradientShards x = new GradientShards(1, 0, 1);
            int value = 0;
            int memory = 0;
            for (int g : numbers) {
                clock(x, 4, g);
                memory = memory - memory / 4 + g;
                value = value - memory / 2;
                DUE.is(Arrays.toString(numbers) + ": memory " + memory, x.pull(0, 4), value);
            }
        }
        GradientShards x = new GradientShards(1, 0, 1);
        clock(x, 0, -7);
        DUE.is("-7 / 2 is -3", x.pull(0, 0), 3);
        clock(x, 0, 0);
        DUE.is("-7 / 4 is -1, and -6 / 2 is -3", x.pull(0, 0), 6);
    }

    private static void rule2() {
        DOCUMENT.says("""
            rule 2: memory = memory + G * G, then value = value - 64 * G / (1 + r), r the greatest
            number with r * r <= memory.""");
        int[][] clocks = {{1, 1, 1, 1, 1, 1, 1, 1, 1, 1}, {-1, -1, -1, -1, -1}, {9, 3, -3, -1, 1, 0}, {0, 2, 0, 5},
            {99, 99, 99, 99, 99, 99}, {-99, 98, -97, 3}};
        for (int[] numbers : clocks) {
            GradientShards x = new GradientShards(1, 0, 2);
            int value = 0;
            int memory = 0;
            for (int g : numbers) {
                clock(x, 5, g);
                memory = memory + g * g;
                int r = 0;
                while ((r + 1) * (r + 1) <= memory) {
                    r++;
                }
                value = value - 64 * g / (1 + r);
                DUE.is(Arrays.toString(numbers) + ": memory " + memory, x.pull(0, 5), value);
            }
        }
        GradientShards x = new GradientShards(1, 0, 2);
        clock(x, 0, -10);
        DUE.is("-640 / 11 is -58", x.pull(0, 0), 58);
    }

    private static void checkpointHolds() {
        DOCUMENT.says("""
            CHECKPOINT of a shard: how many clocks it had DONE then, its keys' values and memories,
            and for each link the BOUNDARY, the number of messages up to and with the END of that
            worker's last clock among those (0 if none was done).""");
        for (int done = 0; done <= 3; done++) {
            for (int rule = 0; rule <= 2; rule++) {
                checkpointHolds(done, rule);
            }
        }
    }

    /** Worker 1 has ended so many clocks with 2 pushes each, worker 0 all three with 1; both go on. */
    private static void checkpointHolds(int done, int rule) {
        String name = "rule " + rule + ", done " + done + ": ";
        GradientShards x = new GradientShards(2, 3, rule);
        for (int clock = 0; clock < 3; clock++) {
            x.add(0, 0, 30);
            x.advance(0);
            if (clock < done) {
                x.add(1, 0, 3);
                x.add(1, 3, 20);
                x.advance(1);
            }
            Play.settle(x);
        }
        x.add(0, 0, 8);
        x.add(1, 3, 9);
        Play.settle(x);
        DUE.is(name + "checkpoint(0)", x.checkpoint(0), 5 * done);
        DUE.is(name + "boundary of worker 0", x.kept(0, 0), 7 - 2 * done);
        DUE.is(name + "boundary of worker 1", x.kept(1, 0), 1);
        int value0 = x.pull(1, 0);
        int value3 = x.pull(1, 3);
        Play.advance(x, 1, 3 - done);
        Play.settle(x);
        DUE.is(name + "done(0) later", x.done(0), 3);
        int later0 = x.pull(1, 0);
        int later3 = x.pull(1, 3);
        x.kill(0);
        x.recover(0);
        DUE.is(name + "done(0) then", x.done(0), done);
        DUE.is(name + "pull(1, 0) then", x.pull(1, 0), value0);
        DUE.is(name + "pull(1, 3) then", x.pull(1, 3), value3);
        DUE.is(name + "told again of worker 0", x.unconfirmed(0, 0), 7 - 2 * done);
        DUE.is(name + "told again of worker 1", x.unconfirmed(1, 0), 1 + 3 - done);
        for (int i = 0; i < 4; i++) {
            x.run(20);
        }
        DUE.is(name + "done(0) at last", x.done(0), 3);
        DUE.is(name + "with the memory of the checkpoint: pull(1, 0)", x.pull(1, 0), later0);
        DUE.is(name + "with the memory of the checkpoint: pull(1, 3)", x.pull(1, 3), later3);
    }

    private static void checkpointAtFirst() {
        DOCUMENT.says("At first a shard has the checkpoint of the beginning.");
        for (int rule = 0; rule <= 2; rule++) {
            GradientShards x = new GradientShards(1, 3, rule);
            clock(x, 1, 40);
            clock(x, 1, 50);
            int value = x.pull(0, 1);
            x.kill(1);
            x.recover(1);
            DUE.is("rule " + rule + ": done(1)", x.done(1), 0);
            DUE.is("rule " + rule + ": pull(0, 1)", x.pull(0, 1), 0);
            DUE.is("rule " + rule + ": early(1)", x.early(1), 0);
            DUE.is("rule " + rule + ": kept(0, 1)", x.kept(0, 1), 4);
            DUE.is("rule " + rule + ": unconfirmed(0, 1)", x.unconfirmed(0, 1), 4);
            DUE.is("rule " + rule + ": no checkpoint was made", x.count(4), 0);
            x.run(20);
            x.run(20);
            DUE.is("rule " + rule + ": pull(0, 1) with the memory from 0 on", x.pull(0, 1), value);
        }
    }

    /** The tests of each promise have all its reasons to refuse; here is one of each call. */
    private static void refusedChangesNothing() {
        DOCUMENT.says("A call that is refused (answer false or -1) changes nothing.");
        REFUSED.isFalse("add(3, 0, 1)", Play::busy, x -> x.add(3, 0, 1));
        REFUSED.isFalse("advance(-1)", Play::busy, x -> x.advance(-1));
        REFUSED.isFalse("ready(0, 2), shard 2 is down", Play::busy, x -> x.ready(0, 2));
        REFUSED.isMinusOne("clock(3)", Play::busy, x -> x.clock(3));
        REFUSED.isMinusOne("deliver(20)", Play::busy, x -> x.deliver(20));
        REFUSED.isFalse("drop(20)", Play::busy, x -> x.drop(20));
        REFUSED.isFalse("copy(20)", Play::busy, x -> x.copy(20));
        REFUSED.isMinusOne("run(0)", Play::busy, x -> x.run(0));
        REFUSED.isFalse("kill(2), it is down", Play::busy, x -> x.kill(2));
        REFUSED.isFalse("recover(0), it is up", Play::busy, x -> x.recover(0));
        REFUSED.isMinusOne("checkpoint(2), it is down", Play::busy, x -> x.checkpoint(2));
        REFUSED.isMinusOne("done(2), it is down", Play::busy, x -> x.done(2));
        REFUSED.isMinusOne("early(2), it is down", Play::busy, x -> x.early(2));
        REFUSED.isMinusOne("kept(0, 3)", Play::busy, x -> x.kept(0, 3));
        REFUSED.isMinusOne("unconfirmed(3, 0)", Play::busy, x -> x.unconfirmed(3, 0));
        REFUSED.isMinusOne("packet(20)", Play::busy, x -> x.packet(20));
        REFUSED.isMinusOne("count(6)", Play::busy, x -> x.count(6));
    }
}
