/** Promises 7 to 11 and 19 to 21: each boundary that they name, at it, just inside and just outside. */
public final class NetBoundaryTest {
    private static final int MIN = Integer.MIN_VALUE;
    private static final int MAX = Integer.MAX_VALUE;
    private static final Due DUE = new Due("net's boundaries");
    private static final Refusal REFUSED = new Refusal(DUE);

    private NetBoundaryTest() { }

    public static void main(String[] args) {
        deliverOfWhichPacket();
        deliverToShardThatIsDown();
        deliverTaken();
        deliverTakenEarly();
        deliverTakenBeforeStart();
        deliverTakenLongAgo();
        deliverAckWithNews();
        deliverAckOfEarlyMessage();
        deliverAckForgottenByRecover();
        dropOfWhichPacket();
        dropIsNotLost();
        copyOfWhichPacket();
        copyIntoNet();
        copyChangesNoSending();
        copyOfAck();
        tickWithNoneUnconfirmed();
        tickThreeAgo();
        tickMoreThanThreeAgo();
        tickSendsFirstUnconfirmed();
        tickGoesByConfirmedNotTaken();
        tickByWorkerAndShard();
        tickCountsLostOnes();
        tickAfterRecover();
        tickForShardThatIsDown();
        runOfHowMany();
        runOneStep();
        runTwentySteps();
        runDeliversOrTicks();
        packetsFromNoneToFull();
        packetWhich();
        packetCode();
        countOfWhat();
        countRefusedNot();
        countOfAllPacketsSent();
        DUE.close();
    }

    private static GradientShards pushes(int number) {
        GradientShards x = new GradientShards(1, 0, 0);
        Play.add(x, 0, number);
        return x;
    }

    private static GradientShards full() {
        GradientShards x = Play.busy();
        Play.fill(x, 24);
        return x;
    }

    private static void deliverOfWhichPacket() {
        DUE.is("7: the only one", pushes(1).deliver(0), 1);
        DUE.is("7: the oldest of 3", pushes(3).deliver(0), 1);
        DUE.is("7: the newest of 3", pushes(3).deliver(2), 1);
        DUE.is("7: one behind the newest", pushes(3).deliver(3), -1);
        DUE.is("7: the newest of 24", full().deliver(23), 1);
        for (int i : Play.noPackets(0)) {
            REFUSED.isMinusOne("7: none is there: deliver(" + i + ")", () -> pushes(0), x -> x.deliver(i));
        }
        REFUSED.isMinusOne("7: none is there: deliver(0)", () -> pushes(0), x -> x.deliver(0));
        for (int i : Play.noPackets(Play.busy().packets())) {
            REFUSED.isMinusOne("7: deliver(" + i + ")", Play::busy, x -> x.deliver(i));
        }
        REFUSED.isMinusOne("7: full: deliver(24)", () -> full(), x -> x.deliver(24));
        GradientShards x = pushes(4);
        x.deliver(1);
        DUE.is("7: it leaves: packets() with its ack", x.packets(), 4);
        DUE.is("7: it leaves: before it", x.packet(0), Play.data(0, 0, 0));
        DUE.is("7: it leaves: behind it", x.packet(1), Play.data(0, 0, 2));
        DUE.is("7: the ack is the newest", x.packet(3), Play.ack(0, 0, 0));
    }

    private static void deliverToShardThatIsDown() {
        GradientShards x = new GradientShards(1, 0, 0);
        x.kill(0);
        x.add(0, 0, 5);
        x.copy(0);
        x.add(0, 1, 5);
        DUE.is("7: down", x.deliver(0), 3);
        DUE.is("7: it leaves the net, and no ack comes", x.packets(), 2);
        DUE.is("7: no ack is sent", x.count(0), 3);
        DUE.is("7: another shard is up", x.deliver(1), 1);
        x.recover(0);
        DUE.is("7: it had not been taken", x.deliver(0), 1);
        DUE.is("7: so there is no double", x.count(3), 0);
        DUE.is("7: its ack", Play.newest(x), Play.ack(0, 0, 1));
    }

    private static void deliverTaken() {
        GradientShards x = pushes(1);
        Play.fill(x, 3);
        DUE.is("7: first", x.deliver(0), 1);
        DUE.is("7: first is no double", x.count(3), 0);
        DUE.is("7: second", x.deliver(0), 2);
        DUE.is("7: second is one", x.count(3), 1);
        DUE.is("7: a double has its ack, too", Play.newest(x), Play.ack(0, 0, 1));
        DUE.is("7: third", x.deliver(0), 2);
        DUE.is("7: third is one", x.count(3), 2);
        DUE.is("7: three acks", x.packets(), 3);
        DUE.is("7: four sent, with copies, and three acks", x.count(0), 6);
    }

    private static void deliverTakenEarly() {
        GradientShards x = pushes(2);
        x.copy(1);
        x.copy(1);
        DUE.is("7: number 1 before number 0", x.deliver(1), 1);
        DUE.is("7: its double while it is early", x.deliver(1), 2);
        DUE.is("7: TURN is 0", Play.newest(x), Play.ack(0, 0, 0));
        DUE.is("7: one is early", x.early(0), 1);
        DUE.is("7: number 0", x.deliver(0), 1);
        DUE.is("7: TURN is 2", Play.newest(x), Play.ack(0, 0, 2));
        DUE.is("7: its double when it is handled", x.deliver(0), 2);
        DUE.is("7: TURN is still 2", Play.newest(x), Play.ack(0, 0, 2));
        DUE.is("7: two doubles", x.count(3), 2);
    }

    private static void deliverTakenBeforeStart() {
        GradientShards x = pushes(1);
        x.advance(0);
        x.copy(0);
        x.copy(1);
        for (int i = 0; i < 4; i++) {
            x.deliver(0);
        }
        x.add(0, 0, 2);
        x.checkpoint(0);
        DUE.is("7: START is 2", x.kept(0, 0), 1);
        DUE.is("7: a push before START", x.deliver(0), 2);
        DUE.is("7: an END before START", x.deliver(0), 2);
        DUE.is("7: TURN is 2", Play.newest(x), Play.ack(0, 0, 2));
        DUE.is("7: the one at START", Play.deliverCode(x, Play.data(0, 0, 2)), 1);
        DUE.is("7: TURN is 3", Play.newest(x), Play.ack(0, 0, 3));
    }

    /** Packet 0 is number 0, taken long ago; so many came after it, of which the last is not taken. */
    private static GradientShards withYounger(int younger) {
        GradientShards x = pushes(1);
        x.copy(0);
        x.deliver(1);
        x.deliver(1);
        for (int number = 1; number < younger; number++) {
            boolean ends = number % 10 == 0;
            boolean made = ends ? x.advance(0) : x.add(0, 0, 1);
            for (int i = 0; made && i < (ends ? 6 : 2); i++) {
                x.deliver(1);
            }
            x.checkpoint(0);
        }
        x.add(0, 0, 1);
        return x;
    }

    private static void deliverTakenLongAgo() {
        for (int younger : new int[] {15, 16, 17, 23, 24, 25, 31, 32, 33, 63, 64, 65}) {
            GradientShards x = withYounger(younger);
            DUE.is("7: the youngest", x.packet(1), Play.data(0, 0, younger));
            DUE.is("7: with " + younger + " younger ones", x.deliver(0), 2);
            DUE.is("7: TURN", x.packet(1), Play.ack(0, 0, younger));
            DUE.is("7: the youngest is not taken yet", x.deliver(0), 1);
            DUE.is("7: TURN behind it", x.packet(1), Play.ack(0, 0, younger + 1));
        }
    }

    private static void deliverAckWithNews() {
        GradientShards x = pushes(4);
        for (int i = 0; i < 4; i++) {
            x.deliver(0);
        }
        x.copy(1);
        DUE.is("7: ack 2, CONFIRMED 0", x.deliver(1), 4);
        DUE.is("7: CONFIRMED 2", x.unconfirmed(0, 0), 2);
        DUE.is("7: ack 1, less than 2", x.deliver(0), 5);
        DUE.is("7: CONFIRMED is still 2", x.unconfirmed(0, 0), 2);
        DUE.is("7: ack 2, not more than 2", x.deliver(2), 5);
        DUE.is("7: CONFIRMED is 2 as before", x.unconfirmed(0, 0), 2);
        DUE.is("7: ack 3, more than 2", x.deliver(0), 4);
        DUE.is("7: CONFIRMED 3", x.unconfirmed(0, 0), 1);
        DUE.is("7: ack 4, all", x.deliver(0), 4);
        DUE.is("7: CONFIRMED 4", x.unconfirmed(0, 0), 0);
        DUE.is("7: an ack is answered by none", x.packets(), 0);
        DUE.is("7: nor counted as a double", x.count(3), 0);
    }

    private static void deliverAckOfEarlyMessage() {
        GradientShards x = pushes(2);
        x.deliver(1);
        DUE.is("7: the ack has the number 0", Play.newest(x), Play.ack(0, 0, 0));
        DUE.is("7: 0 is not more than 0", x.deliver(1), 5);
        DUE.is("7: nothing is confirmed", x.unconfirmed(0, 0), 2);
    }

    private static void deliverAckForgottenByRecover() {
        GradientShards x = pushes(2);
        Play.settle(x);
        x.kill(0);
        x.recover(0);
        Play.tick(x, 3);
        DUE.is("7: number 0 is told again, no double", x.deliver(0), 1);
        DUE.is("7: ack 1 is news again", x.deliver(0), 4);
        DUE.is("7: CONFIRMED 1", x.unconfirmed(0, 0), 1);
    }

    private static void dropOfWhichPacket() {
        DUE.yes("8: the only one", pushes(1).drop(0));
        DUE.yes("8: the newest of 3", pushes(3).drop(2));
        DUE.yes("8: the newest of 24", full().drop(23));
        REFUSED.isFalse("8: none is there: drop(0)", () -> pushes(0), x -> x.drop(0));
        for (int i : Play.noPackets(Play.busy().packets())) {
            REFUSED.isFalse("8: drop(" + i + ")", Play::busy, x -> x.drop(i));
        }
        REFUSED.isFalse("8: full: drop(24)", () -> full(), x -> x.drop(24));
    }

    private static void dropIsNotLost() {
        GradientShards x = pushes(20);
        Play.fill(x, 24);
        for (int left = 23; left >= 0; left--) {
            DUE.yes("8: drop(" + left + ")", x.drop(left));
            DUE.is("8: packets()", x.packets(), left);
        }
        DUE.is("8: count(0)", x.count(0), 24);
        DUE.is("8: count(1)", x.count(1), 0);
        DUE.is("8: the messages are still to be confirmed", x.unconfirmed(0, 0), 20);
        Play.tick(x, 3);
        DUE.is("8: and come again", x.packet(0), Play.data(0, 0, 0));
    }

    private static void copyOfWhichPacket() {
        DUE.yes("9: the only one", pushes(1).copy(0));
        GradientShards x = pushes(3);
        DUE.yes("9: the newest", x.copy(2));
        DUE.yes("9: one between", x.copy(1));
        DUE.is("9: the first copy", x.packet(3), Play.data(0, 0, 2));
        DUE.is("9: the second copy", x.packet(4), Play.data(0, 0, 1));
        DUE.is("9: what was copied stays", x.packet(1), Play.data(0, 0, 1));
        REFUSED.isFalse("9: none is there: copy(0)", () -> pushes(0), y -> y.copy(0));
        for (int i : Play.noPackets(Play.busy().packets())) {
            REFUSED.isFalse("9: copy(" + i + ")", Play::busy, y -> y.copy(i));
        }
    }

    private static GradientShards holding(int packets) {
        GradientShards x = pushes(2);
        Play.fill(x, packets);
        return x;
    }

    private static void copyIntoNet() {
        DUE.yes("9: 22 are there", holding(22).copy(1));
        GradientShards x = holding(23);
        DUE.yes("9: 23 are there", x.copy(1));
        DUE.is("9: then 24 are", x.packets(), 24);
        DUE.is("9: it is the newest", x.packet(23), Play.data(0, 0, 1));
        DUE.is("9: none is lost", x.count(1), 0);
        for (int i : new int[] {0, 1, 23, 24, -1, MIN, MAX}) {
            REFUSED.isFalse("9: 24 are there: copy(" + i + ")", () -> holding(24), y -> y.copy(i));
        }
        DUE.no("9: 24 are there", x.copy(0));
        DUE.is("9: what is refused is not sent", x.count(0), 24);
        DUE.is("9: nor lost", x.count(1), 0);
        x.drop(0);
        DUE.yes("9: 23 are there again", x.copy(0));
    }

    private static void copyChangesNoSending() {
        GradientShards x = pushes(1);
        Play.tick(x, 2);
        DUE.yes("9: a copy at time 2", x.copy(0));
        DUE.is("9: is sent", x.count(0), 2);
        DUE.is("9: but is no sending again", x.count(2), 0);
        DUE.is("9: time 3: the sending at 0 counts", x.tick(), 1);
    }

    private static void copyOfAck() {
        GradientShards x = pushes(1);
        x.deliver(0);
        DUE.yes("9: copy of an ack", x.copy(0));
        DUE.is("9: the copy", x.packet(1), Play.ack(0, 0, 1));
        DUE.is("9: the ack", x.deliver(0), 4);
        DUE.is("9: its copy has no news", x.deliver(0), 5);
    }

    private static void tickWithNoneUnconfirmed() {
        GradientShards x = new GradientShards(4, 0, 0);
        for (int i = 0; i < 5; i++) {
            DUE.is("10: no message at all", x.tick(), 0);
        }
        x.add(0, 0, 1);
        Play.settle(x);
        for (int i = 0; i < 5; i++) {
            DUE.is("10: all confirmed", x.tick(), 0);
        }
        DUE.is("10: count(2)", x.count(2), 0);
    }

    private static void tickThreeAgo() {
        GradientShards x = pushes(1);
        Play.dropAll(x);
        for (int time = 1; time <= 12; time++) {
            DUE.is("10: at time " + time, x.tick(), time % 3 == 0 ? 1 : 0);
        }
        DUE.is("10: packets()", x.packets(), 4);
        DUE.is("10: count(2)", x.count(2), 4);
        GradientShards later = new GradientShards(1, 0, 0);
        Play.tick(later, 2);
        later.add(0, 0, 1);
        DUE.is("10: 1 ago", later.tick(), 0);
        DUE.is("10: 2 ago", later.tick(), 0);
        DUE.is("10: 3 ago", later.tick(), 1);
    }

    private static void tickMoreThanThreeAgo() {
        GradientShards x = pushes(2);
        x.drop(1);
        DUE.is("10: number 0 arrives", x.deliver(0), 1);
        Play.tick(x, 2);
        DUE.is("10: its ack at time 2", x.deliver(0), 4);
        DUE.is("10: number 1 was sent 3 ago", x.tick(), 1);
        GradientShards y = pushes(2);
        y.drop(1);
        y.deliver(0);
        Play.tick(y, 3);
        DUE.is("10: number 0 was sent again", y.count(2), 1);
        DUE.is("10: its ack at time 3", y.deliver(0), 4);
        y.drop(0);
        DUE.is("10: number 1 was sent 4 ago", y.tick(), 1);
        DUE.is("10: it is number 1", y.packet(0), Play.data(0, 0, 1));
        DUE.is("10: and 1 ago", y.tick(), 0);
    }

    private static void tickSendsFirstUnconfirmed() {
        GradientShards x = pushes(3);
        x.deliver(2);
        x.deliver(1);
        Play.dropAll(x);
        Play.tick(x, 3);
        DUE.is("10: one of the link", x.packets(), 1);
        DUE.is("10: number 0", x.packet(0), Play.data(0, 0, 0));
        x.deliver(0);
        DUE.is("10: all three are confirmed", x.deliver(0), 4);
        Play.tick(x, 3);
        DUE.is("10: none is sent again", x.packets(), 0);
    }

    private static void tickGoesByConfirmedNotTaken() {
        GradientShards x = pushes(1);
        Play.tick(x, 2);
        x.add(0, 0, 1);
        DUE.is("10: number 0 is taken at time 2", x.deliver(0), 1);
        DUE.is("10: time 3: its ack has not come, it was sent 3 ago", x.tick(), 1);
        DUE.is("10: number 1, its ack, and number 0", x.packet(2), Play.data(0, 0, 0));
        DUE.is("10: the ack of number 0", x.deliver(1), 4);
        DUE.is("10: time 4: number 1 was sent 2 ago", x.tick(), 0);
        DUE.is("10: time 5: number 1 was sent 3 ago", x.tick(), 1);
    }

    private static void tickByWorkerAndShard() {
        GradientShards x = new GradientShards(4, 0, 0);
        for (int w = 3; w >= 0; w--) {
            for (int k = 5; k >= 3; k--) {
                x.add(w, k, 1);
            }
        }
        Play.dropAll(x);
        Play.tick(x, 2);
        DUE.is("10: all links", x.tick(), 12);
        for (int i = 0; i < 12; i++) {
            DUE.is("10: packet(" + i + ")", x.packet(i), Play.data(i / 3, i % 3, 0));
        }
    }

    private static void tickCountsLostOnes() {
        for (int room = 0; room <= 3; room++) {
            GradientShards x = new GradientShards(1, 0, 0);
            x.advance(0);
            Play.fill(x, 24 - room);
            Play.tick(x, 2);
            DUE.is("10: room for " + room, x.tick(), 3);
            DUE.is("10: lost with room for " + room, x.count(1), 3 - room);
            DUE.is("10: sent again with room for " + room, x.count(2), 3);
            DUE.is("10: full", x.packets(), 24);
        }
    }

    private static void tickAfterRecover() {
        for (int time = 0; time <= 3; time++) {
            GradientShards x = pushes(1);
            Play.settle(x);
            Play.tick(x, time);
            x.kill(0);
            x.recover(0);
            DUE.is("10: recovered at time " + time, x.tick(), time >= 2 ? 1 : 0);
        }
    }

    private static void tickForShardThatIsDown() {
        GradientShards x = pushes(1);
        x.kill(0);
        DUE.is("10: down, time 1", x.tick(), 0);
        DUE.is("10: down, time 2", x.tick(), 0);
        DUE.is("10: down, time 3", x.tick(), 1);
        DUE.is("10: on its way", x.packet(0), Play.data(0, 0, 0));
        DUE.is("10: but the shard is down", x.deliver(0), 3);
        Play.tick(x, 2);
        DUE.is("10: down, time 6", x.tick(), 1);
    }

    private static void runOfHowMany() {
        for (int n : new int[] {MIN, -20, -1, 0, 21, 22, MAX}) {
            REFUSED.isMinusOne("11: run(" + n + ")", Play::busy, x -> x.run(n));
            REFUSED.isMinusOne("11: full: run(" + n + ")", () -> full(), x -> x.run(n));
            REFUSED.isMinusOne("11: none is there: run(" + n + ")", () -> pushes(0), x -> x.run(n));
        }
    }

    private static void runOneStep() {
        GradientShards x = pushes(2);
        DUE.is("11: one packet", x.run(1), 1);
        DUE.is("11: packet(0)", x.packet(0), Play.data(0, 0, 1));
        DUE.is("11: and its ack", x.packet(1), Play.ack(0, 0, 1));
        GradientShards y = pushes(1);
        y.drop(0);
        DUE.is("11: a tick", y.run(1), 0);
        DUE.is("11: that was time 1", y.tick(), 0);
        DUE.is("11: this is time 3", y.run(1) + y.packets(), 1);
    }

    private static void runTwentySteps() {
        GradientShards x = pushes(20);
        DUE.is("11: 20 packets", x.run(20), 20);
        DUE.is("11: 20 acks", x.packets(), 20);
        DUE.is("11: of all", x.early(0), 0);
        DUE.is("11: 19 acks", x.run(19), 19);
        DUE.is("11: one is left", x.packets(), 1);
        DUE.is("11: and ticks then", x.run(20), 1);
        DUE.is("11: unconfirmed(0, 0)", x.unconfirmed(0, 0), 0);
        GradientShards y = new GradientShards(1, 0, 0);
        y.kill(0);
        y.add(0, 0, 1);
        y.drop(0);
        DUE.is("11: at 3, 6, 9, 12, 15 it is told and down", y.run(20), 5);
        DUE.is("11: count(2)", y.count(2), 5);
        DUE.is("11: time was 15", y.tick() + y.tick(), 0);
        DUE.is("11: time is 18", y.tick(), 1);
    }

    private static void runDeliversOrTicks() {
        GradientShards x = pushes(1);
        x.drop(0);
        DUE.is("11: three ticks", x.run(3), 0);
        DUE.is("11: which send it again", x.packets(), 1);
        DUE.is("11: the message", x.run(1), 1);
        DUE.is("11: the ack, then a tick", x.run(2), 1);
        DUE.is("11: unconfirmed(0, 0)", x.unconfirmed(0, 0), 0);
        x.add(0, 0, 1);
        x.drop(0);
        DUE.is("11: 1 and 2 ago", x.run(2), 0);
        DUE.is("11: 3 ago, the message and its ack", x.run(3), 2);
    }

    private static void packetsFromNoneToFull() {
        GradientShards x = new GradientShards(1, 0, 0);
        DUE.is("19: none", x.packets(), 0);
        for (int i = 1; i <= 24; i++) {
            x.add(0, i % 3, 1);
            DUE.is("19: packets()", x.packets(), i);
        }
        x.add(0, 0, 1);
        DUE.is("19: one is lost", x.packets(), 24);
        x.advance(0);
        DUE.is("19: three are lost", x.packets(), 24);
        x.drop(0);
        DUE.is("19: one has left", x.packets(), 23);
    }

    private static void packetWhich() {
        DUE.is("20: the oldest", pushes(3).packet(0), Play.data(0, 0, 0));
        DUE.is("20: the newest", pushes(3).packet(2), Play.data(0, 0, 2));
        DUE.is("20: one behind it", pushes(3).packet(3), -1);
        DUE.is("20: the newest of 24", full().packet(23), full().packet(0));
        REFUSED.isMinusOne("20: none is there: packet(0)", () -> pushes(0), x -> x.packet(0));
        REFUSED.isMinusOne("20: full: packet(24)", () -> full(), x -> x.packet(24));
        for (int i : Play.noPackets(Play.busy().packets())) {
            REFUSED.isMinusOne("20: packet(" + i + ")", Play::busy, x -> x.packet(i));
        }
    }

    private static void packetCode() {
        GradientShards x = new GradientShards(4, 3, 0);
        for (int w = 0; w < 4; w++) {
            x.advance(w);
            x.advance(w);
        }
        for (int i = 0; i < 24; i++) {
            DUE.is("20: packet(" + i + ")", x.packet(i), 2 * (i / 6) + 8 * (i % 3) + 32 * (i / 3 % 2));
        }
        x.deliver(23);
        DUE.is("20: ack of worker 3, shard 2, an early one", x.packet(23), 1 + 6 + 16);
        x.deliver(20);
        DUE.is("20: ack of worker 3, shard 2, both", x.packet(23), 1 + 6 + 16 + 64);
        x.deliver(0);
        DUE.is("20: ack of worker 0, shard 0", x.packet(23), 1 + 32);
    }

    private static void countOfWhat() {
        for (int kind : new int[] {MIN, -1, 6, 7, MAX}) {
            REFUSED.isMinusOne("21: count(" + kind + ")", Play::busy, x -> x.count(kind));
        }
        for (int kind = 0; kind <= 5; kind++) {
            DUE.is("21: at first: count(" + kind + ")", pushes(0).count(kind), 0);
        }
        GradientShards x = Play.busy();
        DUE.yes("21: recover(2)", x.recover(2));
        x.tick();
        // Made and acked: 3 * 6 twice; 4 pushes, an ack, a copy, a push; and what the tick sent.
        int again = 1;
        DUE.is("21: sent", x.count(0), 36 + 4 + 1 + 1 + 1 + again);
        DUE.is("21: lost", x.count(1), 0);
        DUE.is("21: sent again", x.count(2), again);
        DUE.is("21: doubles", x.count(3), 0);
        DUE.is("21: checkpoints", x.count(4), 2);
        DUE.is("21: recoveries", x.count(5), 1);
    }

    private static void countRefusedNot() {
        GradientShards x = new GradientShards(2, 0, 0);
        x.kill(1);
        x.checkpoint(1);
        x.recover(0);
        x.recover(3);
        x.checkpoint(-1);
        x.add(2, 0, 1);
        x.deliver(0);
        x.copy(0);
        x.drop(0);
        for (int kind = 0; kind <= 5; kind++) {
            DUE.is("21: of refused calls: count(" + kind + ")", x.count(kind), 0);
        }
    }

    private static void countOfAllPacketsSent() {
        GradientShards x = pushes(1);
        DUE.is("21: a message", x.count(0), 1);
        x.copy(0);
        DUE.is("21: a copy", x.count(0), 2);
        x.deliver(0);
        DUE.is("21: an ack", x.count(0), 3);
        x.deliver(0);
        DUE.is("21: the ack of a double", x.count(0), 4);
        Play.tick(x, 3);
        DUE.is("21: a message sent again", x.count(0), 5);
        Play.fill(x, 24);
        DUE.is("21: copies", x.count(0), 26);
        DUE.is("21: none lost yet", x.count(1), 0);
        x.add(0, 1, 1);
        DUE.is("21: a lost one", x.count(0), 27);
        DUE.is("21: lost", x.count(1), 1);
        x.deliver(0);
        DUE.is("21: an ack that arrives sends none", x.count(0), 27);
        x.kill(0);
        DUE.is("21: what leaves by kill is not lost", x.count(1), 1);
    }
}
