import java.util.ArrayList;
import java.util.List;

/** Promises 7 to 11 and 19 to 21, sentence by sentence. */
public final class NetSentenceTest {
    private static final int MIN = Integer.MIN_VALUE;
    private static final int MAX = Integer.MAX_VALUE;
    private static final Due DUE = new Due("net's sentences");
    private static final Twins TWINS = new Twins(DUE);
    private static final Refusal REFUSED = new Refusal(DUE);
    private static final Document DOCUMENT = new Document(DUE,
        "Promise 7: deliver", "Promise 8: drop", "Promise 9: copy", "Promise 10: tick",
        "Promise 11: run", "Promise 19: packets", "Promise 20: packet", "Promise 21: count");
    private static final int[][] ORDERS = {
        {0, 1, 2, 3}, {3, 2, 1, 0}, {1, 0, 3, 2}, {2, 3, 0, 1}, {0, 3, 1, 2}, {3, 0, 2, 1},
        {0, 0, 1, 1, 2, 3, 3}, {3, 3, 1, 3, 0, 1, 2, 2}, {2, 2, 0, 2, 1, 0, 3, 1},
    };

    private NetSentenceTest() { }

    public static void main(String[] args) {
        deliverTakesPacketOut();
        deliverToShardThatIsDown();
        deliverTakesOrIsDouble();
        deliverSendsAck();
        deliverOfAck();
        deliverAnswers();
        dropTakesPacketOut();
        copySendsTheSame();
        tickSendsAgain();
        tickAnswers();
        runIsSteps();
        runAnswers();
        packetsInNet();
        packetCode();
        countsSoFar();
        DOCUMENT.close();
    }

    /** Four messages of worker 1 for shard 2, of which the last is an END. */
    private static GradientShards fourMessages() {
        GradientShards x = new GradientShards(2, 1, 0);
        x.add(1, 2, 10);
        x.add(1, 5, 20);
        x.add(1, 2, 30);
        x.advance(1);
        x.drop(3);
        x.drop(3);
        return x;
    }

    private static GradientShards full() {
        GradientShards x = Play.busy();
        Play.fill(x, 24);
        return x;
    }

    private static List<Integer> without(List<Integer> codes, int i) {
        List<Integer> left = new ArrayList<>(codes);
        left.remove(i);
        return left;
    }

    private static void deliverTakesPacketOut() {
        DOCUMENT.says("Packet i leaves the net and arrives.");
        for (int i = 0; i < 24; i++) {
            GradientShards x = full();
            List<Integer> before = Play.packets(x);
            int answer = x.deliver(i);
            List<Integer> after = Play.packets(x);
            String name = "deliver(" + i + "): ";
            DUE.yes(name + "it arrives", answer >= 1 && answer <= 5);
            boolean isAcked = answer <= 2;
            DUE.is(name + "packets()", after.size(), isAcked ? 24 : 23);
            DUE.yes(name + "the others stay as they were", after.subList(0, 23).equals(without(before, i)));
        }
    }

    private static GradientShards withShardDown() {
        GradientShards x = Play.busy();
        x.copy(x.packets() - 1);
        return x;
    }

    private static void deliverToShardThatIsDown() {
        DOCUMENT.says("DATA: if the shard is down, nothing more: 3.");
        int last = withShardDown().packets() - 1;
        DUE.is("a packet of shard 2, which is down", withShardDown().packet(last), Play.data(1, 2, 2));
        for (int i = last - 1; i <= last; i++) {
            int index = i;
            TWINS.areAlike("deliver(" + i + ") is like drop(" + i + ")", () -> withShardDown(),
                x -> DUE.is("down: deliver(" + index + ")", x.deliver(index), 3),
                x -> DUE.yes("down: drop(" + index + ")", x.drop(index)));
        }
        GradientShards x = withShardDown();
        x.deliver(last);
        x.recover(2);
        DUE.is("it was not taken: another packet of it", x.deliver(last - 1), 1);
    }

    /** Messages that arrive in this order, each from a copy, so that all can arrive once more. */
    private static void deliverTakesOrIsDouble() {
        DOCUMENT.says("""
            Else, if the shard has taken that message already, a DOUBLE: 2; otherwise it takes it: 1.""");
        for (int[] order : ORDERS) {
            GradientShards x = fourMessages();
            boolean[] taken = new boolean[4];
            int doubles = 0;
            for (int number : order) {
                x.copy(number);
                int answer = x.deliver(x.packets() - 1);
                DUE.is("message " + number, answer, taken[number] ? 2 : 1);
                doubles += taken[number] ? 1 : 0;
                taken[number] = true;
                DUE.is("doubles", x.count(3), doubles);
                x.drop(x.packets() - 1);
            }
            x.advance(0);
            Play.settle(x);
            DUE.is("what was taken counts once: done(2)", x.done(2), 1);
            DUE.is("what was taken counts once: pull(1, 2)", x.pull(1, 2), -40);
            DUE.is("what was taken counts once: pull(1, 5)", x.pull(1, 5), -20);
        }
    }

    private static int turnOf(boolean[] taken) {
        int turn = 0;
        while (turn < taken.length && taken[turn]) {
            turn++;
        }
        return turn;
    }

    private static void deliverSendsAck() {
        DOCUMENT.says("In both cases it then sends an ACK packet of the link with the number TURN.");
        for (int[] order : ORDERS) {
            GradientShards x = fourMessages();
            boolean[] taken = new boolean[4];
            for (int number : order) {
                x.copy(number);
                int sent = x.count(0);
                int packets = x.packets();
                x.deliver(packets - 1);
                taken[number] = true;
                DUE.is("message " + number + ": its ack", Play.newest(x), Play.ack(1, 2, turnOf(taken)));
                DUE.is("message " + number + ": one is sent", x.count(0), sent + 1);
                DUE.is("message " + number + ": one is in", x.packets(), packets);
            }
        }
    }

    private static void deliverOfAck() {
        DOCUMENT.says("""
            ACK with the number a: if that is more than the link's CONFIRMED, this becomes a: 4;
            otherwise 5.""");
        for (int[] order : ORDERS) {
            GradientShards x = fourMessages();
            for (int i = 0; i < 4; i++) {
                x.deliver(0);
            }
            int confirmed = 0;
            for (int i : order) {
                x.copy(i);
                int a = i + 1;
                DUE.is("ack " + a + ", CONFIRMED " + confirmed, x.deliver(4), a > confirmed ? 4 : 5);
                confirmed = Math.max(confirmed, a);
                DUE.is("unconfirmed(1, 2)", x.unconfirmed(1, 2), 4 - confirmed);
                DUE.is("of another worker: unconfirmed(0, 2)", x.unconfirmed(0, 2), 0);
                DUE.is("of another shard: unconfirmed(1, 1)", x.unconfirmed(1, 1), 1);
                DUE.is("kept(1, 2)", x.kept(1, 2), 4);
                DUE.is("an ack is not answered", x.packets(), 4);
            }
        }
    }

    private static void deliverAnswers() {
        DOCUMENT.says("Answers 1 to 5 as said; -1 if there is no packet i.");
        GradientShards x = fourMessages();
        x.copy(0);
        DUE.is("taken", x.deliver(0), 1);
        DUE.is("double", x.deliver(3), 2);
        DUE.is("ack with news", x.deliver(3), 4);
        DUE.is("ack without", x.deliver(3), 5);
        x.kill(2);
        x.add(1, 2, 1);
        DUE.is("down", x.deliver(0), 3);
        DUE.is("none is there", x.deliver(0), -1);
        for (int i : Play.noPackets(0)) {
            REFUSED.isMinusOne("none is there: deliver(" + i + ")", () -> new GradientShards(2, 0, 0),
                y -> y.deliver(i));
        }
        for (int i : Play.noPackets(4)) {
            REFUSED.isMinusOne("four are there: deliver(" + i + ")", () -> fourMessages(), y -> y.deliver(i));
        }
        REFUSED.isMinusOne("24 are there: deliver(24)", () -> full(), y -> y.deliver(24));
    }

    private static void dropTakesPacketOut() {
        DOCUMENT.says("""
            Packet i leaves the net and is no more (it is not counted as lost); false if there is
            none.""");
        for (int i = 0; i < 24; i++) {
            GradientShards x = full();
            List<Integer> before = Play.packets(x);
            int sent = x.count(0);
            DUE.yes("drop(" + i + ")", x.drop(i));
            DUE.yes("drop(" + i + "): the others stay", Play.packets(x).equals(without(before, i)));
            DUE.is("drop(" + i + "): lost", x.count(1), 0);
            DUE.is("drop(" + i + "): sent", x.count(0), sent);
        }
        GradientShards x = fourMessages();
        DUE.yes("drop of the second", x.drop(1));
        Play.settle(x);
        DUE.is("it does not arrive: early(2)", x.early(2), 2);
        DUE.is("it does not arrive: unconfirmed(1, 2)", x.unconfirmed(1, 2), 3);
        for (int i : Play.noPackets(4)) {
            REFUSED.isFalse("drop(" + i + ")", () -> fourMessages(), y -> y.drop(i));
        }
        REFUSED.isFalse("24 are there: drop(24)", () -> full(), y -> y.drop(24));
    }

    private static void copySendsTheSame() {
        DOCUMENT.says("""
            Sends a packet just as packet i, which stays (that changes no message's LATEST SENDING);
            false if there is no packet i or 24 are there.""");
        int packets = Play.busy().packets();
        for (int i = 0; i < packets; i++) {
            GradientShards x = Play.busy();
            List<Integer> due = Play.packets(x);
            due.add(due.get(i));
            int sent = x.count(0);
            DUE.yes("copy(" + i + ")", x.copy(i));
            DUE.yes("copy(" + i + "): as the newest", Play.packets(x).equals(due));
            DUE.is("copy(" + i + "): sent", x.count(0), sent + 1);
            DUE.is("copy(" + i + "): sent again", x.count(2), 0);
        }
        for (int made = 0; made < 3; made++) {
            copyChangesNoSending(made);
        }
        for (int i : Play.noPackets(4)) {
            REFUSED.isFalse("copy(" + i + ")", () -> fourMessages(), x -> x.copy(i));
        }
        for (int i = 0; i <= 24; i++) {
            int index = i;
            REFUSED.isFalse("24 are there: copy(" + i + ")", () -> full(), x -> x.copy(index));
        }
    }

    private static void copyChangesNoSending(int ticksBefore) {
        GradientShards x = new GradientShards(1, 0, 0);
        x.add(0, 0, 1);
        Play.tick(x, ticksBefore);
        x.copy(0);
        for (int time = ticksBefore + 1; time <= 3; time++) {
            DUE.is("a copy at time " + ticksBefore + ": tick at " + time, x.tick(), time == 3 ? 1 : 0);
        }
    }

    private static void tickSendsAgain() {
        DOCUMENT.says("""
            Time grows by 1; then on each link, by ascending worker and for each worker by ascending
            shard, the first unconfirmed message, if there is one and its latest sending was 3 or
            more ago, is sent again.""");
        for (int made = 0; made <= 4; made++) {
            tickSendsAgainEachThird(made);
        }
        tickGoesThroughLinks();
        tickSendsFirstUnconfirmed();
        tickSendsWhatWasSentLongAgo();
    }

    private static void tickSendsAgainEachThird(int made) {
        GradientShards x = new GradientShards(1, 0, 0);
        Play.tick(x, made);
        x.add(0, 0, 1);
        x.drop(0);
        for (int time = made + 1; time <= made + 9; time++) {
            boolean again = (time - made) % 3 == 0;
            x.tick();
            DUE.is("made at " + made + ", time " + time + ": packets()", x.packets(), again ? 1 : 0);
            DUE.is("made at " + made + ", time " + time + ": packet(0)", x.packet(0), again ? 0 : -1);
            x.drop(0);
        }
    }

    /** Of all twelve links, those of shard 1 have none that is unconfirmed, and one was made later. */
    private static void tickGoesThroughLinks() {
        GradientShards x = new GradientShards(4, 0, 0);
        for (int w = 3; w >= 0; w--) {
            x.add(w, 1, 1);
        }
        Play.settle(x);
        for (int w = 3; w >= 0; w--) {
            x.add(w, 5, 1);
            x.add(w, 2, 1);
            if (w != 2) {
                x.add(w, 0, 1);
            }
        }
        x.tick();
        x.add(2, 0, 1);
        Play.dropAll(x);
        x.tick();
        DUE.is("time 2: packets()", x.packets(), 0);
        x.tick();
        int[] due = {
            Play.data(0, 0, 0), Play.data(0, 2, 0), Play.data(1, 0, 0), Play.data(1, 2, 0),
            Play.data(2, 2, 0), Play.data(3, 0, 0), Play.data(3, 2, 0),
        };
        DUE.is("time 3: packets()", x.packets(), due.length);
        for (int i = 0; i < due.length; i++) {
            DUE.is("time 3: packet(" + i + ")", x.packet(i), due[i]);
        }
        x.tick();
        DUE.is("time 4: the one made at 1", Play.newest(x), Play.data(2, 0, 0));
        DUE.is("time 4: packets()", x.packets(), due.length + 1);
    }

    /** The first unconfirmed is sent, also if it was taken, and none behind it. */
    private static void tickSendsFirstUnconfirmed() {
        for (int confirmed = 0; confirmed <= 4; confirmed++) {
            GradientShards x = fourMessages();
            for (int i = 0; i < 4; i++) {
                x.deliver(0);
            }
            Play.deliverCode(x, Play.ack(1, 2, confirmed));
            Play.dropAll(x);
            Play.tick(x, 3);
            DUE.is("CONFIRMED " + confirmed + ": packets()", x.packets(), confirmed == 4 ? 2 : 3);
            DUE.is("CONFIRMED " + confirmed + ": link 1 0", x.packet(0), Play.data(1, 0, 0));
            DUE.is("CONFIRMED " + confirmed + ": link 1 1", x.packet(1), Play.data(1, 1, 0));
            int due = confirmed == 4 ? -1 : Play.data(1, 2, confirmed);
            DUE.is("CONFIRMED " + confirmed + ": link 1 2", x.packet(2), due);
        }
    }

    /** A message that was second becomes the first when it was sent 3, 4 and 5 ago. */
    private static void tickSendsWhatWasSentLongAgo() {
        for (int time = 0; time <= 5; time++) {
            GradientShards x = new GradientShards(1, 0, 0);
            Play.add(x, 0, 2);
            x.deliver(0);
            Play.tick(x, time);
            Play.deliverCode(x, Play.ack(0, 0, 1));
            Play.dropAll(x);
            DUE.is("confirmed at " + time + ", then a tick", x.tick(), time + 1 >= 3 ? 1 : 0);
            DUE.is("confirmed at " + time + ": packet(0)", x.packet(0), time + 1 >= 3 ? Play.data(0, 0, 1) : -1);
        }
    }

    private static void tickAnswers() {
        DOCUMENT.says("Answers how many were sent again (lost or not).");
        for (int room = 0; room <= 13; room++) {
            GradientShards x = new GradientShards(4, 0, 0);
            for (int w = 0; w < 4; w++) {
                x.advance(w);
            }
            Play.dropAll(x);
            x.add(0, 0, 1);
            Play.fill(x, 24 - room);
            DUE.is("time 1", x.tick(), 0);
            DUE.is("time 2", x.tick(), 0);
            DUE.is("room for " + room, x.tick(), 12);
            DUE.is("room for " + room + ": lost", x.count(1), Math.max(0, 12 - room));
            DUE.is("room for " + room + ": sent again", x.count(2), 12);
        }
        for (int w = 1; w <= 4; w++) {
            GradientShards x = new GradientShards(w, 0, 0);
            x.advance(w - 1);
            Play.tick(x, 2);
            DUE.is("three links of " + 3 * w, x.tick(), 3);
        }
    }

    /** Does by hand what a run of so many steps does, and says how many packets were delivered. */
    private static int steps(GradientShards x, int n) {
        int delivered = 0;
        for (int step = 0; step < n; step++) {
            if (x.packets() > 0) {
                x.deliver(0);
                delivered++;
            } else {
                x.tick();
            }
        }
        return delivered;
    }

    private static GradientShards lost() {
        GradientShards x = fourMessages();
        Play.dropAll(x);
        return x;
    }

    private static void runIsSteps() {
        DOCUMENT.says("""
            n STEPS: in each, if there are packets, packet 0 is delivered as by deliver(0), else a
            tick as by tick().""");
        for (int n = 1; n <= 20; n++) {
            int number = n;
            TWINS.areAlike("run(" + n + ")", Play::busy, x -> x.run(number), x -> steps(x, number));
            TWINS.areAlike("all was lost: run(" + n + ")", () -> lost(), x -> x.run(number), x -> steps(x, number));
        }
        TWINS.areAlike("24 are there: run(20)", () -> full(), x -> x.run(20), x -> steps(x, 20));
    }

    private static void runAnswers() {
        DOCUMENT.says("Answers how many packets were delivered; -1 if n is not 1 .. 20.");
        for (int n = 1; n <= 20; n++) {
            DUE.is("24 are there: run(" + n + ")", full().run(n), n);
            DUE.is("none is there: run(" + n + ")", new GradientShards(1, 0, 0).run(n), 0);
            DUE.is("all was lost: run(" + n + ")", lost().run(n), steps(lost(), n));
        }
        DUE.is("all was lost: three ticks, three messages and their acks", lost().run(9), 6);
        for (int n : new int[] {MIN, -20, -2, -1, 0, 21, 22, 40, MAX}) {
            REFUSED.isMinusOne("run(" + n + ")", Play::busy, x -> x.run(n));
        }
    }

    private static void packetsInNet() {
        DOCUMENT.says("The number of packets in the net.");
        GradientShards x = new GradientShards(2, 3, 0);
        DUE.is("at first", x.packets(), 0);
        x.add(0, 0, 1);
        DUE.is("a push", x.packets(), 1);
        x.advance(0);
        DUE.is("three ENDs", x.packets(), 4);
        x.copy(1);
        DUE.is("a copy", x.packets(), 5);
        x.deliver(0);
        DUE.is("one arrives, its ack comes", x.packets(), 5);
        x.deliver(4);
        DUE.is("an ack arrives", x.packets(), 4);
        x.drop(3);
        DUE.is("one is dropped", x.packets(), 3);
        x.kill(1);
        DUE.is("one of shard 1 leaves", x.packets(), 2);
        x.add(1, 1, 1);
        DUE.is("one to a shard that is down", x.packets(), 3);
        x.deliver(2);
        DUE.is("it arrives and is not answered", x.packets(), 2);
        Play.tick(x, 3);
        DUE.is("four are sent again", x.packets(), 6);
        Play.fill(x, 24);
        Play.add(x, 0, 3);
        DUE.is("what is lost is not there", x.packets(), 24);
    }

    private static void packetCode() {
        DOCUMENT.says("""
            Packet i: 1 if it is an ACK, else 0, + 2 * worker + 8 * shard + 32 * its number; -1 if
            there is none.""");
        for (int w = 0; w < 4; w++) {
            for (int h = 0; h < 3; h++) {
                packetCodesOfLink(w, h);
            }
        }
        for (int i : Play.noPackets(4)) {
            REFUSED.isMinusOne("packet(" + i + ")", () -> fourMessages(), x -> x.packet(i));
        }
        DUE.is("none is there: packet(0)", new GradientShards(1, 0, 0).packet(0), -1);
        REFUSED.isMinusOne("24 are there: packet(24)", () -> full(), x -> x.packet(24));
    }

    private static void packetCodesOfLink(int w, int h) {
        GradientShards x = new GradientShards(4, 0, 0);
        for (int number = 0; number < 12; number++) {
            x.add(w, h + 3 * (number % 2), number);
        }
        for (int i = 0; i < 12; i++) {
            DUE.is("data of link " + w + " " + h, x.packet(i), 2 * w + 8 * h + 32 * i);
        }
        for (int i = 0; i < 12; i++) {
            x.deliver(0);
        }
        for (int i = 0; i < 12; i++) {
            DUE.is("acks of link " + w + " " + h, x.packet(i), 1 + 2 * w + 8 * h + 32 * (i + 1));
        }
    }

    private static void countsSoFar() {
        DOCUMENT.says("""
            So far, kind 0: packets sent (lost ones and copies too); 1: lost (for there were 24; not
            those dropped); 2: messages sent again; 3: doubles; 4: checkpoints made; 5: recoveries;
            -1 for another kind.""");
        int[] met = new int[6];
        for (int seed = 0; seed < 200; seed++) {
            int workers = 1 + seed % 4;
            GradientShards x = new GradientShards(workers, seed % 3, 0);
            int[] due = countsOfCalls(x, new Caller(seed, workers, x), 100);
            for (int kind = 0; kind < 6; kind++) {
                DUE.is("seed " + seed + ": count(" + kind + ")", x.count(kind), due[kind]);
                met[kind] += due[kind];
            }
        }
        for (int kind = 0; kind < 6; kind++) {
            DUE.yes("the calls met kind " + kind, met[kind] > 100);
        }
        for (int kind : new int[] {MIN, -2, -1, 6, 7, MAX}) {
            REFUSED.isMinusOne("count(" + kind + ")", Play::busy, x -> x.count(kind));
        }
    }

    /** The counts that follow from what the calls answered and how the net grew. */
    private static int[] countsOfCalls(GradientShards x, Caller caller, int calls) {
        int[] due = new int[6];
        for (int i = 0; i < calls; i++) {
            int before = x.packets();
            Caller.Call call = caller.next();
            int sent = sentBy(call);
            due[0] += sent;
            // A packet that arrives makes room for its ack; by drop and kill none is sent.
            due[1] += sent > 0 && !call.is("deliver") ? before + sent - x.packets() : 0;
            due[2] += call.is("tick") ? call.answer() : 0;
            due[3] += call.is("deliver") && call.answer() == 2 ? 1 : 0;
            due[4] += call.is("checkpoint") && call.answer() >= 0 ? 1 : 0;
            due[5] += call.is("recover") ? call.answer() : 0;
        }
        return due;
    }

    private static int sentBy(Caller.Call call) {
        switch (call.name()) {
            case "add": case "copy": case "tick": return call.answer();
            case "advance": return 3 * call.answer();
            case "deliver": return call.answer() == 1 || call.answer() == 2 ? 1 : 0;
            default: return 0;
        }
    }
}
