import java.util.ArrayList;
import java.util.Arrays;
import java.util.List;

/** Promises 12 to 18, sentence by sentence. */
public final class ShardSentenceTest {
    private static final Due DUE = new Due("shards' sentences");
    private static final Refusal REFUSED = new Refusal(DUE);
    private static final Document DOCUMENT = new Document(DUE,
        "Promise 12: kill", "Promise 13: recover", "Promise 14: checkpoint", "Promise 15: done",
        "Promise 16: early", "Promise 17: kept", "Promise 18: unconfirmed");

    private ShardSentenceTest() { }

    public static void main(String[] args) {
        killGoesDown();
        killIsRefused();
        recoverToCheckpoint();
        recoverIsRefused();
        checkpointIsMade();
        checkpointAnswers();
        doneClocks();
        earlyMessages();
        keptMessages();
        unconfirmedMessages();
        DOCUMENT.close();
    }

    private static GradientShards allDown() {
        GradientShards x = Play.busy();
        x.kill(0);
        x.kill(1);
        x.add(0, 0, 3);
        x.add(0, 1, 4);
        return x;
    }

    /** Each worker pushes g + its number for keys 0 and 3 and ends its clock; all packets arrive. */
    private static void clockOfAll(GradientShards x, int workers, int g) {
        for (int w = 0; w < workers; w++) {
            x.add(w, 0, g + w);
            x.add(w, 3, -g);
            x.advance(w);
        }
        Play.settle(x);
    }

    private static void runOn(GradientShards x) {
        for (int i = 0; i < 6; i++) {
            x.run(20);
        }
    }

    private static void killGoesDown() {
        DOCUMENT.says("""
            Shard h goes down: it forgets everything but its checkpoint, and all packets of its
            links (data and acks) leave the net.""");
        for (int h = 0; h < 3; h++) {
            killTakesPackets(h);
        }
        for (int workers = 1; workers <= 4; workers++) {
            killForgetsAllButCheckpoint(workers);
        }
    }

    /** Two workers with data, copies and acks of all shards on their way. */
    private static GradientShards withAllKindsOfPackets() {
        GradientShards x = new GradientShards(2, 1, 0);
        for (int k = 0; k < 6; k++) {
            x.add(k % 2, k, k);
        }
        x.advance(1);
        for (int i = 0; i < 9; i += 2) {
            x.copy(i);
        }
        for (int i = 0; i < 5; i++) {
            x.deliver(i);
        }
        return x;
    }

    private static void killTakesPackets(int h) {
        GradientShards x = withAllKindsOfPackets();
        List<Integer> left = new ArrayList<>();
        int acks = 0;
        int data = 0;
        for (int code : Play.packets(x)) {
            if (code / 8 % 4 != h) {
                left.add(code);
            } else if (code % 2 == 1) {
                acks++;
            } else {
                data++;
            }
        }
        DUE.yes("there are acks and data of shard " + h, acks > 0 && data > 0);
        int sent = x.count(0);
        DUE.yes("kill(" + h + ")", x.kill(h));
        DUE.yes("kill(" + h + "): the others' packets stay", Play.packets(x).equals(left));
        DUE.is("kill(" + h + "): none is lost", x.count(1), 0);
        DUE.is("kill(" + h + "): none is sent", x.count(0), sent);
        for (int shard = 0; shard < 3; shard++) {
            DUE.is("kill(" + h + "): done(" + shard + ")", x.done(shard), shard == h ? -1 : 0);
            DUE.is("kill(" + h + "): ready(0, " + shard + ")", x.ready(0, shard), shard != h);
        }
    }

    private static void killForgetsAllButCheckpoint(int workers) {
        String name = workers + " workers: ";
        GradientShards x = new GradientShards(workers, 3, 1);
        clockOfAll(x, workers, 20);
        x.checkpoint(0);
        int value = x.pull(0, 0);
        clockOfAll(x, workers, 30);
        x.add(0, 0, 5);
        x.add(0, 0, 6);
        x.deliver(1);
        DUE.is(name + "before: early(0)", x.early(0), 1);
        int unconfirmed = x.unconfirmed(0, 0);
        int kept = x.kept(0, 0);
        x.kill(0);
        DUE.is(name + "down: CONFIRMED is the link's and stays", x.unconfirmed(0, 0), unconfirmed);
        DUE.is(name + "down: START is the link's and stays", x.kept(0, 0), kept);
        DUE.is(name + "down: done(0)", x.done(0), -1);
        DUE.is(name + "down: early(0)", x.early(0), -1);
        DUE.is(name + "down: pull(0, 0)", x.pull(0, 0), 0);
        x.recover(0);
        DUE.is(name + "up: done(0)", x.done(0), 1);
        DUE.is(name + "up: early(0)", x.early(0), 0);
        DUE.is(name + "up: pull(0, 0)", x.pull(0, 0), value);
    }

    private static void killIsRefused() {
        DOCUMENT.says("False, if there is no such shard or it is down.");
        for (int h : Play.NO_SHARDS) {
            REFUSED.isFalse("kill(" + h + ")", Play::busy, x -> x.kill(h));
            REFUSED.isFalse("all are down: kill(" + h + ")", () -> allDown(), x -> x.kill(h));
        }
        for (int h = 0; h < 3; h++) {
            int shard = h;
            REFUSED.isFalse("all are down: kill(" + h + ")", () -> allDown(), x -> x.kill(shard));
            GradientShards x = new GradientShards(1, 0, 0);
            DUE.yes("kill(" + h + ")", x.kill(h));
            DUE.no("kill(" + h + ") when it is down", x.kill(h));
            x.recover(h);
            DUE.yes("kill(" + h + ") when it is up again", x.kill(h));
        }
    }

    private static void recoverToCheckpoint() {
        DOCUMENT.says("""
            Shard h is up again, as it was at its checkpoint: it has done as many clocks, values and
            memories are those, it has taken the messages before the BOUNDARY of each of its links,
            and no others; CONFIRMED of each of its links becomes the boundary (also if it was more).""");
        for (int rule = 0; rule <= 2; rule++) {
            for (int workers = 1; workers <= 4; workers++) {
                recoverToValuesAndMemories(rule, workers);
            }
        }
        recoverToTakenMessages();
        for (int acked = 0; acked <= 3; acked++) {
            recoverConfirmsBoundary(acked);
        }
        int[] met = new int[3];
        for (int seed = 0; seed < 600; seed++) {
            confirmedChangesAsSaid(seed, met);
        }
        for (int times : met) {
            DUE.yes("acks, recoveries and checkpoints changed it " + Arrays.toString(met) + " times", times > 50);
        }
    }

    private static void recoverToValuesAndMemories(int rule, int workers) {
        String name = "rule " + rule + ", " + workers + " workers: ";
        GradientShards x = new GradientShards(workers, 3, rule);
        clockOfAll(x, workers, 40);
        x.checkpoint(0);
        int value0 = x.pull(0, 0);
        int value3 = x.pull(0, 3);
        clockOfAll(x, workers, 7);
        int later0 = x.pull(0, 0);
        int later3 = x.pull(0, 3);
        x.kill(0);
        DUE.yes(name + "recover(0)", x.recover(0));
        DUE.is(name + "done(0)", x.done(0), 1);
        DUE.yes(name + "it is up", x.ready(0, 0));
        DUE.is(name + "pull(0, 0)", x.pull(0, 0), value0);
        DUE.is(name + "pull(0, 3)", x.pull(0, 3), value3);
        DUE.is(name + "the other shards stay: done(1)", x.done(1), 2);
        DUE.is(name + "recoveries", x.count(5), 1);
        runOn(x);
        DUE.is(name + "done(0) when it was told again", x.done(0), 2);
        DUE.is(name + "by the memory that it had: pull(0, 0)", x.pull(0, 0), later0);
        DUE.is(name + "by the memory that it had: pull(0, 3)", x.pull(0, 3), later3);
    }

    /** Of six messages the boundary is 2; number 2 was handled since, and number 4 came early. */
    private static GradientShards recovered() {
        GradientShards x = new GradientShards(1, 3, 0);
        x.add(0, 0, 10);
        x.advance(0);
        Play.settle(x);
        x.checkpoint(0);
        Play.add(x, 0, 4);
        x.deliver(0);
        x.deliver(1);
        x.kill(0);
        x.recover(0);
        return x;
    }

    private static void recoverToTakenMessages() {
        GradientShards x = recovered();
        DUE.is("early(0)", x.early(0), 0);
        DUE.is("unconfirmed(0, 0)", x.unconfirmed(0, 0), 4);
        DUE.is("packets()", x.packets(), 0);
        Play.tick(x, 3);
        DUE.is("the one at the boundary comes again", x.packet(0), Play.data(0, 0, 2));
        DUE.is("it was not taken", x.deliver(0), 1);
        DUE.is("those before the boundary were", x.packet(0), Play.ack(0, 0, 3));
        for (int number = 3; number < 6; number++) {
            x.deliver(0);
            Play.tick(x, 3);
            DUE.is("number " + number + " comes again", x.packet(0), Play.data(0, 0, number));
            DUE.is("number " + number + " was not taken", x.deliver(0), 1);
        }
        DUE.is("no doubles", x.count(3), 0);
    }

    /** Three messages after a boundary of 1, of which so many were confirmed before the kill. */
    private static void recoverConfirmsBoundary(int acked) {
        String name = acked + " confirmed behind the boundary: ";
        GradientShards x = new GradientShards(2, 3, 0);
        x.advance(0);
        x.advance(1);
        Play.settle(x);
        x.checkpoint(0);
        Play.add(x, 0, 3);
        for (int i = 0; i < 3; i++) {
            x.deliver(0);
        }
        Play.deliverCode(x, Play.ack(0, 0, 1 + acked));
        DUE.is(name + "before", x.unconfirmed(0, 0), 3 - acked);
        x.kill(0);
        DUE.is(name + "down", x.unconfirmed(0, 0), 3 - acked);
        x.recover(0);
        DUE.is(name + "up", x.unconfirmed(0, 0), 3);
        DUE.is(name + "another worker's link", x.unconfirmed(1, 0), 0);
        DUE.is(name + "another shard's link", x.unconfirmed(0, 1), 0);
        DUE.is(name + "kept(0, 0)", x.kept(0, 0), 3);
    }

    /** CONFIRMED of a link is changed by an ack with news, by recover and checkpoint, and by no other call. */
    private static void confirmedChangesAsSaid(int seed, int[] met) {
        int workers = 1 + seed % 2;
        GradientShards x = new GradientShards(workers, 2, 0);
        Caller caller = new Caller(seed, workers, x);
        int[] made = new int[6];
        int[] due = new int[6];
        for (int step = 0; step < (workers == 1 ? 70 : 44); step++) {
            Caller.Call call = caller.next();
            noteMade(made, call);
            int[] before = due.clone();
            noteConfirmed(due, call, x, workers, made);
            if (!Arrays.equals(before, due)) {
                met[call.is("deliver") ? 0 : call.is("recover") ? 1 : 2]++;
            }
            for (int link = 0; link < 3 * workers; link++) {
                String name = "seed " + seed + ", step " + step + ", " + call + ": CONFIRMED of link ";
                int got = made[link] - x.unconfirmed(link / 3, link % 3);
                DUE.is(name + link / 3 + " " + link % 3, got, due[link]);
            }
        }
    }

    private static void noteMade(int[] made, Caller.Call call) {
        boolean isDone = call.answer() == 1;
        if (call.is("add") && isDone) {
            made[3 * call.first() + call.second() % 3]++;
        }
        for (int h = 0; h < 3 && call.is("advance") && isDone; h++) {
            made[3 * call.first() + h]++;
        }
    }

    private static void noteConfirmed(int[] due, Caller.Call call, GradientShards x, int workers, int[] made) {
        if (call.is("deliver") && call.answer() == 4) {
            int code = call.second();
            due[3 * (code / 2 % 4) + code / 8 % 4] = code / 32;
        }
        boolean back = call.is("recover") && call.answer() == 1;
        boolean saved = call.is("checkpoint") && call.answer() >= 0;
        for (int w = 0; w < workers && (back || saved); w++) {
            int link = 3 * w + call.first();
            int start = made[link] - x.kept(w, call.first());
            due[link] = back ? start : Math.max(due[link], start);
        }
    }

    private static void recoverIsRefused() {
        DOCUMENT.says("False, if there is no such shard or it is up.");
        for (int h : Play.NO_SHARDS) {
            REFUSED.isFalse("recover(" + h + ")", Play::busy, x -> x.recover(h));
            REFUSED.isFalse("all are down: recover(" + h + ")", () -> allDown(), x -> x.recover(h));
        }
        for (int h = 0; h < 3; h++) {
            int shard = h;
            REFUSED.isFalse("up: recover(" + h + ")", () -> withAllKindsOfPackets(), x -> x.recover(shard));
            REFUSED.isFalse("up again: recover(" + h + ")", () -> recovered(), x -> x.recover(shard));
            DUE.yes("down: recover(" + h + ")", allDown().recover(h));
        }
    }

    private static void checkpointIsMade() {
        DOCUMENT.says("""
            Shard h makes a checkpoint instead of the one that it has: START of each of its links
            becomes the link's boundary, and CONFIRMED too, if it is less than that.""");
        checkpointInsteadOfTheOther();
        for (int h = 0; h < 3; h++) {
            checkpointMovesStart(h);
        }
        for (int acked = 0; acked <= 4; acked++) {
            checkpointConfirms(acked);
        }
        checkpointWithNothingNew();
    }

    private static void checkpointInsteadOfTheOther() {
        GradientShards x = new GradientShards(2, 3, 1);
        for (int made = 1; made <= 4; made++) {
            clockOfAll(x, 2, 10 * made);
            x.checkpoint(0);
            int value = x.pull(1, 3);
            clockOfAll(x, 2, 50);
            x.kill(0);
            x.recover(0);
            DUE.is("the latest one: done(0)", x.done(0), 2 * made - 1);
            DUE.is("the latest one: pull(1, 3)", x.pull(1, 3), value);
            DUE.is("checkpoints made", x.count(4), made);
            x.run(20);
            x.run(20);
        }
    }

    /** Three workers at clocks 1, 2 and 3 have pushed as many numbers in each clock; one is done. */
    private static void checkpointMovesStart(int h) {
        GradientShards x = new GradientShards(3, 3, 0);
        for (int w = 0; w < 3; w++) {
            for (int clock = 0; clock <= w; clock++) {
                for (int i = 0; i <= w; i++) {
                    x.add(w, h, 1);
                }
                x.advance(w);
                Play.settle(x);
            }
        }
        DUE.is("done(" + h + ")", x.done(h), 1);
        int[] made = {2, 6, 12};
        int[] boundary = {2, 3, 4};
        x.checkpoint(h);
        for (int w = 0; w < 3; w++) {
            DUE.is("kept(" + w + ", " + h + ")", x.kept(w, h), made[w] - boundary[w]);
            DUE.is("unconfirmed(" + w + ", " + h + ")", x.unconfirmed(w, h), 0);
            DUE.is("another shard: kept", x.kept(w, (h + 1) % 3), w + 1);
            DUE.is("another shard: kept", x.kept(w, (h + 2) % 3), w + 1);
        }
        x.kill(h);
        x.recover(h);
        DUE.is("done(" + h + ") of the checkpoint", x.done(h), 1);
        for (int w = 0; w < 3; w++) {
            DUE.is("told from the boundary on", x.unconfirmed(w, h), made[w] - boundary[w]);
        }
    }

    /** Four messages are handled, the boundary is 2, and so many are confirmed. */
    private static void checkpointConfirms(int acked) {
        GradientShards x = new GradientShards(1, 0, 0);
        x.add(0, 0, 1);
        x.advance(0);
        Play.add(x, 0, 2);
        for (int number = 0; number < 4; number++) {
            Play.deliverCode(x, Play.data(0, 0, number));
        }
        Play.deliverCode(x, Play.ack(0, 0, acked));
        DUE.is("CONFIRMED " + acked + ": before", x.unconfirmed(0, 0), 4 - acked);
        x.checkpoint(0);
        DUE.is("CONFIRMED " + acked + ": after", x.unconfirmed(0, 0), 4 - Math.max(2, acked));
        DUE.is("CONFIRMED " + acked + ": kept(0, 0)", x.kept(0, 0), 2);
        DUE.is("CONFIRMED " + acked + ": on another link", x.unconfirmed(0, 1), 1);
    }

    /** A shard that is up makes one whatever it has done: it is refused only as the next sentence says. */
    private static void checkpointWithNothingNew() {
        GradientShards x = new GradientShards(2, 0, 0);
        for (int made = 1; made <= 3; made++) {
            DUE.is("nothing was done: checkpoint(1)", x.checkpoint(1), 0);
            DUE.is("nothing was done: checkpoints made", x.count(4), made);
        }
        clockOfAll(x, 2, 4);
        x.add(0, 0, 1);
        Play.settle(x);
        DUE.is("one clock was done: checkpoint(0)", x.checkpoint(0), 6);
        DUE.is("no clock since: checkpoint(0)", x.checkpoint(0), 0);
        DUE.is("no clock since: checkpoints made", x.count(4), 5);
        DUE.is("no clock since: kept(0, 0)", x.kept(0, 0), 1);
        x.kill(0);
        x.recover(0);
        DUE.is("recovered: checkpoint(0)", x.checkpoint(0), 0);
        DUE.is("recovered: checkpoints made", x.count(4), 6);
        DUE.is("recovered: unconfirmed(0, 0)", x.unconfirmed(0, 0), 1);
    }

    private static void checkpointAnswers() {
        DOCUMENT.says("""
            Answers how many messages fewer are kept, on all its links; -1 if there is no such shard
            or it is down.""");
        for (int workers = 1; workers <= 4; workers++) {
            GradientShards x = new GradientShards(workers, 3, 0);
            clockOfAll(x, workers, 9);
            x.add(0, 0, 9);
            for (int h = 0; h < 3; h++) {
                int before = keptOnAllLinks(x, workers, h);
                int fewer = x.checkpoint(h);
                DUE.is("checkpoint(" + h + ")", fewer, h == 0 ? 3 * workers : workers);
                DUE.is("checkpoint(" + h + "): fewer are kept", before - keptOnAllLinks(x, workers, h), fewer);
                DUE.is("checkpoint(" + h + ") once more", x.checkpoint(h), 0);
            }
        }
        for (int h : Play.NO_SHARDS) {
            REFUSED.isMinusOne("checkpoint(" + h + ")", Play::busy, x -> x.checkpoint(h));
        }
        for (int h = 0; h < 3; h++) {
            int shard = h;
            REFUSED.isMinusOne("down: checkpoint(" + h + ")", () -> allDown(), x -> x.checkpoint(shard));
        }
    }

    private static int keptOnAllLinks(GradientShards x, int workers, int h) {
        int kept = 0;
        for (int w = 0; w < workers; w++) {
            kept += x.kept(w, h);
        }
        return kept;
    }

    private static void doneClocks() {
        DOCUMENT.says("How many clocks shard h has done; -1 if there is no such shard or it is down.");
        for (int h = 0; h < 3; h++) {
            int shard = h;
            doneAsEndsArrive(h);
            REFUSED.isMinusOne("down: done(" + h + ")", () -> allDown(), x -> x.done(shard));
        }
        for (int h : Play.NO_SHARDS) {
            REFUSED.isMinusOne("done(" + h + ")", Play::busy, x -> x.done(h));
        }
    }

    private static void doneAsEndsArrive(int h) {
        GradientShards x = new GradientShards(2, 3, 0);
        DUE.is("at first: done(" + h + ")", x.done(h), 0);
        Play.advance(x, 0, 3);
        Play.advance(x, 1, 2);
        int[] workers = {0, 1, 0, 1, 0};
        int[] numbers = {0, 1, 1, 0, 2};
        int[] done = {0, 0, 0, 2, 2};
        for (int i = 0; i < 5; i++) {
            DUE.is("END", Play.deliverCode(x, Play.data(workers[i], h, numbers[i])), 1);
            DUE.is("done(" + h + ") with END " + i, x.done(h), done[i]);
            DUE.is("done of another shard", x.done((h + 1) % 3), 0);
        }
    }

    private static void earlyMessages() {
        DOCUMENT.says("""
            How many early messages shard h has, on all its links; -1 if there is no such shard or
            it is down.""");
        for (int h = 0; h < 3; h++) {
            int shard = h;
            for (int workers = 1; workers <= 4; workers++) {
                earlyOnAllLinks(h, workers);
            }
            REFUSED.isMinusOne("down: early(" + h + ")", () -> allDown(), x -> x.early(shard));
        }
        earlyOnLinkOfLongUse();
        for (int h : Play.NO_SHARDS) {
            REFUSED.isMinusOne("early(" + h + ")", Play::busy, x -> x.early(h));
        }
    }

    /** Of each worker's messages 0 to 3 come 3, then 1, then 0, then 2. */
    private static void earlyOnAllLinks(int h, int workers) {
        GradientShards x = new GradientShards(workers, 0, 0);
        for (int w = 0; w < workers; w++) {
            for (int i = 0; i < 4; i++) {
                x.add(w, h, 1);
            }
        }
        int[] order = {3, 1, 0, 2};
        int[] earlyOfOne = {0, 1, 2, 1, 0};
        for (int i = 0; i < 4; i++) {
            for (int w = 0; w < workers; w++) {
                Play.deliverCode(x, Play.data(w, h, order[i]));
                int due = (w + 1) * earlyOfOne[i + 1] + (workers - w - 1) * earlyOfOne[i];
                DUE.is("number " + order[i] + " of worker " + w + ": early(" + h + ")", x.early(h), due);
                DUE.is("early of another shard", x.early((h + 1) % 3), 0);
            }
        }
    }

    /** More messages than a worker can keep at once have come and gone: none of them is early. */
    private static void earlyOnLinkOfLongUse() {
        GradientShards x = new GradientShards(1, 0, 0);
        for (int number = 0; number < 60; number += 2) {
            x.add(0, 0, 1);
            x.advance(0);
            DUE.is("END " + (number + 1), x.deliver(1), 1);
            DUE.is("END " + (number + 1) + " comes first: early(0)", x.early(0), 1);
            DUE.is("PUSH " + number, x.deliver(0), 1);
            DUE.is("PUSH " + number + " comes then: early(0)", x.early(0), 0);
            DUE.is("the other ENDs and all acks", x.run(6), 6);
            for (int h = 0; h < 3; h++) {
                x.checkpoint(h);
            }
        }
    }

    private static void keptMessages() {
        DOCUMENT.says("""
            How many messages worker w keeps on its link with shard h; -1 if one does not exist.""");
        for (int w = 0; w < 4; w++) {
            for (int h = 0; h < 3; h++) {
                keptOnLink(w, h);
            }
        }
        askOfNone("kept", (x, w, h) -> x.kept(w, h));
    }

    private static void keptOnLink(int w, int h) {
        GradientShards x = new GradientShards(4, 3, 0);
        for (int made = 0; made < 5; made++) {
            DUE.is("kept(" + w + ", " + h + ")", x.kept(w, h), made);
            x.add(w, h, 1);
        }
        x.advance(w);
        DUE.is("with the END: kept(" + w + ", " + h + ")", x.kept(w, h), 6);
        DUE.is("another shard's: kept", x.kept(w, (h + 1) % 3), 1);
        DUE.is("another worker's: kept", x.kept((w + 1) % 4, h), 0);
        Play.settle(x);
        DUE.is("confirmed: kept(" + w + ", " + h + ")", x.kept(w, h), 6);
        for (int v = 0; v < 4; v++) {
            x.advance(v);
        }
        Play.settle(x);
        x.checkpoint(h);
        DUE.is("after the checkpoint: kept(" + w + ", " + h + ")", x.kept(w, h), 1);
        x.kill(h);
        DUE.is("down: kept(" + w + ", " + h + ")", x.kept(w, h), 1);
    }

    private static void unconfirmedMessages() {
        DOCUMENT.says("""
            How many messages of worker w on its link with shard h are unconfirmed; -1 if one does
            not exist.""");
        for (int w = 0; w < 4; w++) {
            for (int h = 0; h < 3; h++) {
                unconfirmedOnLink(w, h);
            }
        }
        askOfNone("unconfirmed", (x, w, h) -> x.unconfirmed(w, h));
    }

    private static void unconfirmedOnLink(int w, int h) {
        GradientShards x = new GradientShards(4, 3, 0);
        for (int made = 0; made < 5; made++) {
            DUE.is("unconfirmed(" + w + ", " + h + ")", x.unconfirmed(w, h), made);
            x.add(w, h, 1);
        }
        x.advance(w);
        DUE.is("with the END: unconfirmed(" + w + ", " + h + ")", x.unconfirmed(w, h), 6);
        for (int number = 0; number < 6; number++) {
            Play.deliverCode(x, Play.data(w, h, number));
            DUE.is("taken: unconfirmed(" + w + ", " + h + ")", x.unconfirmed(w, h), 6 - number);
            Play.deliverCode(x, Play.ack(w, h, number + 1));
            DUE.is("confirmed: unconfirmed(" + w + ", " + h + ")", x.unconfirmed(w, h), 5 - number);
            DUE.is("another shard's: unconfirmed", x.unconfirmed(w, (h + 1) % 3), 1);
            DUE.is("another worker's: unconfirmed", x.unconfirmed((w + 1) % 4, h), 0);
        }
        x.kill(h);
        DUE.is("down: unconfirmed(" + w + ", " + h + ")", x.unconfirmed(w, h), 0);
        x.recover(h);
        DUE.is("recovered: unconfirmed(" + w + ", " + h + ")", x.unconfirmed(w, h), 6);
    }

    private interface OfLink {
        int ask(GradientShards x, int w, int h);
    }

    private static void askOfNone(String name, OfLink question) {
        for (int w : Play.noWorkers(3)) {
            REFUSED.isMinusOne(name + "(" + w + ", 0)", Play::busy, x -> question.ask(x, w, 0));
            for (int h : Play.NO_SHARDS) {
                REFUSED.isMinusOne(name + "(" + w + ", " + h + ")", Play::busy, x -> question.ask(x, w, h));
            }
        }
        for (int h : Play.NO_SHARDS) {
            REFUSED.isMinusOne(name + "(0, " + h + ")", Play::busy, x -> question.ask(x, 0, h));
        }
    }
}
