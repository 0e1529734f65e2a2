/** Promises 12 to 18: each boundary that they name, at it, just inside and just outside. */
public final class ShardBoundaryTest {
    private static final Due DUE = new Due("shards' boundaries");
    private static final Refusal REFUSED = new Refusal(DUE);

    private ShardBoundaryTest() { }

    public static void main(String[] args) {
        killOfWhichShard();
        killTakesPacketsOfItsLinks();
        killOfFullNet();
        killForgets();
        recoverOfWhichShard();
        recoverToValuesAndMemories();
        recoverToTakenBeforeBoundary();
        recoverConfirmsBoundary();
        recoverWithMessagesMadeMeanwhile();
        recoverTwiceToOneCheckpoint();
        checkpointOfWhichShard();
        checkpointOfNothingNew();
        checkpointInsteadOfTheOther();
        for (int acked = 0; acked <= 4; acked++) {
            checkpointConfirms(acked);
        }
        checkpointOfOneShardAlone();
        checkpointWithEarlyMessages();
        checkpointOfSeveralClocks();
        doneOfWhichShard();
        doneCountsHandledEnds();
        earlyOfWhichShard();
        earlyOnAllLinks();
        keptOfWhom();
        keptUpTo24();
        unconfirmedOfWhom();
        unconfirmedDownTo0();
        DUE.close();
    }

    private static GradientShards allDown() {
        GradientShards x = Play.busy();
        x.kill(0);
        x.kill(1);
        x.add(0, 0, 3);
        x.add(0, 1, 4);
        return x;
    }

    /** A worker whose clocks push 10, 20, .. for key 0, all of it handled and confirmed. */
    private static GradientShards clocks(int rule, int number) {
        GradientShards x = new GradientShards(1, 3, rule);
        for (int c = 1; c <= number; c++) {
            clock(x, 10 * c);
        }
        return x;
    }

    private static void clock(GradientShards x, int g) {
        x.add(0, 0, g);
        x.advance(0);
        Play.settle(x);
    }

    private static void killOfWhichShard() {
        for (int h = 0; h < 3; h++) {
            int shard = h;
            GradientShards x = new GradientShards(1, 0, 0);
            DUE.yes("12: kill(" + h + ")", x.kill(h));
            DUE.is("12: done(" + h + ")", x.done(h), -1);
            DUE.no("12: kill(" + h + ") again", x.kill(h));
            for (int other = 1; other <= 2; other++) {
                DUE.is("12: the others are up", x.done((h + other) % 3), 0);
            }
            REFUSED.isFalse("12: kill(" + h + ") when it is down", () -> allDown(), y -> y.kill(shard));
        }
        for (int h : Play.NO_SHARDS) {
            REFUSED.isFalse("12: kill(" + h + ")", Play::busy, x -> x.kill(h));
        }
    }

    private static void killTakesPacketsOfItsLinks() {
        GradientShards x = new GradientShards(2, 0, 0);
        x.add(0, 1, 1);
        x.add(0, 0, 1);
        x.add(1, 1, 1);
        x.add(1, 2, 1);
        x.add(1, 0, 1);
        x.deliver(0);
        x.deliver(0);
        x.copy(0);
        DUE.is("12: packets() before", x.packets(), 6);
        x.kill(1);
        DUE.is("12: packets() without data, copies and acks of shard 1", x.packets(), 3);
        DUE.is("12: shard 2's", x.packet(0), Play.data(1, 2, 0));
        DUE.is("12: shard 0's", x.packet(1), Play.data(1, 0, 0));
        DUE.is("12: shard 0's ack", x.packet(2), Play.ack(0, 0, 1));
        x.kill(2);
        DUE.is("12: the oldest has left", x.packet(0), Play.data(1, 0, 0));
        x.kill(0);
        DUE.is("12: none is left", x.packets(), 0);
        DUE.is("12: none was lost", x.count(1), 0);
    }

    private static void killOfFullNet() {
        GradientShards x = new GradientShards(1, 0, 0);
        Play.add(x, 2, 20);
        Play.fill(x, 24);
        x.kill(1);
        DUE.is("12: none of shard 1", x.packets(), 24);
        x.kill(2);
        DUE.is("12: all of shard 2", x.packets(), 0);
        DUE.is("12: none was lost", x.count(1), 0);
        DUE.is("12: the worker keeps them", x.kept(0, 2), 20);
        x.add(0, 0, 1);
        DUE.is("12: the next is the oldest", x.packet(0), Play.data(0, 0, 0));
    }

    private static void killForgets() {
        GradientShards x = clocks(0, 1);
        x.add(0, 0, 1);
        x.add(0, 0, 1);
        x.deliver(1);
        DUE.is("12: before: done(0)", x.done(0), 1);
        DUE.is("12: before: early(0)", x.early(0), 1);
        x.kill(0);
        DUE.is("12: down: done(0)", x.done(0), -1);
        DUE.is("12: down: early(0)", x.early(0), -1);
        DUE.is("12: down: pull(0, 0)", x.pull(0, 0), 0);
        DUE.is("12: down: what is confirmed is the worker's", x.unconfirmed(0, 0), 2);
        x.recover(0);
        DUE.is("12: after: done(0)", x.done(0), 0);
        DUE.is("12: after: early(0)", x.early(0), 0);
        DUE.is("12: after: pull(0, 0)", x.pull(0, 0), 0);
    }

    private static void recoverOfWhichShard() {
        for (int h = 0; h < 3; h++) {
            int shard = h;
            GradientShards x = allDown();
            DUE.yes("13: recover(" + h + ")", x.recover(h));
            DUE.no("13: recover(" + h + ") again", x.recover(h));
            DUE.is("13: one recovery", x.count(5), 1);
            DUE.is("13: the others stay down", x.done((h + 1) % 3), -1);
            REFUSED.isFalse("13: recover(" + h + ") when it is up", () -> clocks(1, 2), y -> y.recover(shard));
        }
        for (int h : Play.NO_SHARDS) {
            REFUSED.isFalse("13: recover(" + h + ")", () -> allDown(), x -> x.recover(h));
        }
    }

    private static void recoverToValuesAndMemories() {
        for (int rule = 0; rule <= 2; rule++) {
            GradientShards x = clocks(rule, 2);
            int value = x.pull(0, 0);
            x.checkpoint(0);
            clock(x, 30);
            int valueAtThree = x.pull(0, 0);
            clock(x, 40);
            x.kill(0);
            x.recover(0);
            DUE.is("13: rule " + rule + ": done(0)", x.done(0), 2);
            DUE.is("13: rule " + rule + ": value", x.pull(0, 0), value);
            Play.tick(x, 3);
            x.run(5);
            x.run(2);
            DUE.is("13: rule " + rule + ": done(0) when the third is told again", x.done(0), 3);
            DUE.is("13: rule " + rule + ": value by the memory that it was", x.pull(0, 0), valueAtThree);
        }
    }

    private static void recoverToTakenBeforeBoundary() {
        GradientShards x = clocks(0, 1);
        x.checkpoint(0);
        Play.add(x, 0, 3);
        x.deliver(0);
        x.deliver(1);
        DUE.is("13: one was handled after the boundary, one is early", x.early(0), 1);
        x.kill(0);
        x.recover(0);
        DUE.is("13: no others are taken", x.early(0), 0);
        Play.tick(x, 3);
        DUE.is("13: the first is the one at the boundary", x.packet(0), Play.data(0, 0, 2));
        DUE.is("13: it is taken anew", x.deliver(0), 1);
        DUE.is("13: TURN was the boundary", x.packet(0), Play.ack(0, 0, 3));
        DUE.is("13: the early one is not taken", x.early(0), 0);
        DUE.is("13: no double", x.count(3), 0);
    }

    private static void recoverConfirmsBoundary() {
        GradientShards x = clocks(0, 1);
        x.checkpoint(0);
        DUE.is("13: CONFIRMED is the boundary", x.unconfirmed(0, 0), 0);
        x.kill(0);
        x.recover(0);
        DUE.is("13: it stays", x.unconfirmed(0, 0), 0);
        x.add(0, 0, 1);
        Play.settle(x);
        DUE.is("13: CONFIRMED is one more", x.unconfirmed(0, 0), 0);
        x.kill(0);
        DUE.is("13: also while it is down", x.unconfirmed(0, 0), 0);
        x.recover(0);
        DUE.is("13: it becomes the boundary", x.unconfirmed(0, 0), 1);
        DUE.is("13: START stays", x.kept(0, 0), 1);
        DUE.is("13: other shards' links stay", x.unconfirmed(0, 1), 0);
    }

    private static void recoverWithMessagesMadeMeanwhile() {
        GradientShards x = clocks(0, 1);
        x.kill(0);
        x.add(0, 0, 5);
        x.recover(0);
        DUE.is("13: the packet made while it was down is there", x.packet(0), Play.data(0, 0, 2));
        DUE.is("13: and taken", x.deliver(0), 1);
        DUE.is("13: but early", x.early(0), 1);
        DUE.is("13: TURN is 0", x.packet(0), Play.ack(0, 0, 0));
        DUE.is("13: unconfirmed(0, 0)", x.unconfirmed(0, 0), 3);
        x.advance(0);
        x.run(20);
        x.run(20);
        DUE.is("13: done(0)", x.done(0), 2);
        DUE.is("13: pull(0, 0)", x.pull(0, 0), -15);
    }

    private static void recoverTwiceToOneCheckpoint() {
        GradientShards x = clocks(1, 1);
        x.checkpoint(0);
        for (int i = 1; i <= 3; i++) {
            clock(x, 8);
            x.kill(0);
            DUE.yes("13: recover(0)", x.recover(0));
            DUE.is("13: done(0)", x.done(0), 1);
            DUE.is("13: pull(0, 0)", x.pull(0, 0), -5);
            DUE.is("13: kept(0, 0)", x.kept(0, 0), 2 * i);
            DUE.is("13: unconfirmed(0, 0)", x.unconfirmed(0, 0), 2 * i);
            DUE.is("13: count(5)", x.count(5), i);
            x.run(20);
        }
        DUE.is("13: no checkpoint is made by it", x.count(4), 1);
    }

    private static void checkpointOfWhichShard() {
        for (int h = 0; h < 3; h++) {
            int shard = h;
            DUE.is("14: checkpoint(" + h + ")", clocks(0, 2).checkpoint(h), h == 0 ? 4 : 2);
            REFUSED.isMinusOne("14: checkpoint(" + h + ") when it is down", () -> allDown(), x -> x.checkpoint(shard));
        }
        for (int h : Play.NO_SHARDS) {
            REFUSED.isMinusOne("14: checkpoint(" + h + ")", () -> clocks(1, 2), x -> x.checkpoint(h));
        }
    }

    private static void checkpointOfNothingNew() {
        GradientShards x = new GradientShards(2, 0, 0);
        DUE.is("14: of the beginning", x.checkpoint(0), 0);
        DUE.is("14: is made", x.count(4), 1);
        GradientShards y = clocks(0, 1);
        DUE.is("14: of one clock", y.checkpoint(0), 2);
        DUE.is("14: once more", y.checkpoint(0), 0);
        DUE.is("14: both are made", y.count(4), 2);
        y.add(0, 0, 1);
        Play.settle(y);
        DUE.is("14: of a clock that has not ended", y.checkpoint(0), 0);
        DUE.is("14: which is kept", y.kept(0, 0), 1);
    }

    private static void checkpointInsteadOfTheOther() {
        GradientShards x = clocks(0, 1);
        x.checkpoint(0);
        clock(x, 20);
        x.checkpoint(0);
        clock(x, 30);
        x.kill(0);
        x.recover(0);
        DUE.is("14: the later one: done(0)", x.done(0), 2);
        DUE.is("14: the later one: pull(0, 0)", x.pull(0, 0), -30);
        DUE.is("14: the later one: unconfirmed(0, 0)", x.unconfirmed(0, 0), 2);
        DUE.is("14: of what was gone back to", x.checkpoint(0), 0);
    }

    /** Four messages are handled, the boundary is 3, and CONFIRMED is what was acked last. */
    private static void checkpointConfirms(int acked) {
        String name = "14: CONFIRMED " + acked + ", boundary 3: ";
        GradientShards x = new GradientShards(1, 0, 0);
        Play.add(x, 0, 2);
        x.advance(0);
        x.add(0, 0, 1);
        for (int number = 0; number < 4; number++) {
            Play.deliverCode(x, Play.data(0, 0, number));
        }
        Play.deliverCode(x, Play.ack(0, 0, acked));
        DUE.is(name + "unconfirmed before", x.unconfirmed(0, 0), 4 - acked);
        DUE.is(name + "checkpoint(0)", x.checkpoint(0), 3);
        DUE.is(name + "unconfirmed after", x.unconfirmed(0, 0), acked == 4 ? 0 : 1);
        DUE.is(name + "kept", x.kept(0, 0), 1);
        DUE.is(name + "ack 3 has no news", acked == 3 ? 5 : Play.deliverCode(x, Play.ack(0, 0, 3)), 5);
    }

    private static void checkpointOfOneShardAlone() {
        GradientShards x = clocks(0, 2);
        x.checkpoint(1);
        DUE.is("14: kept(0, 0)", x.kept(0, 0), 4);
        DUE.is("14: kept(0, 1)", x.kept(0, 1), 0);
        DUE.is("14: kept(0, 2)", x.kept(0, 2), 2);
        for (int h = 0; h < 3; h++) {
            x.kill(h);
            x.recover(h);
            DUE.is("14: done(" + h + ")", x.done(h), h == 1 ? 2 : 0);
        }
    }

    private static void checkpointWithEarlyMessages() {
        GradientShards x = clocks(0, 1);
        Play.add(x, 0, 2);
        x.deliver(1);
        DUE.is("14: checkpoint(0)", x.checkpoint(0), 2);
        DUE.is("14: the shard goes on with its early one", x.early(0), 1);
        DUE.is("14: and takes what it waits for", x.deliver(0), 1);
        DUE.is("14: TURN is 4", x.packet(1), Play.ack(0, 0, 4));
        DUE.is("14: kept(0, 0)", x.kept(0, 0), 2);
    }

    private static void checkpointOfSeveralClocks() {
        GradientShards x = new GradientShards(3, 3, 0);
        for (int w = 0; w < 3; w++) {
            for (int c = 0; c < w + 1; c++) {
                x.add(w, 0, 1);
                x.advance(w);
            }
        }
        Play.settle(x);
        DUE.is("14: done(0)", x.done(0), 1);
        DUE.is("14: two of each worker", x.checkpoint(0), 6);
        for (int w = 0; w < 3; w++) {
            DUE.is("14: kept(" + w + ", 0)", x.kept(w, 0), 2 * w);
        }
        x.advance(0);
        Play.settle(x);
        DUE.is("14: done(0) a clock later", x.done(0), 2);
        DUE.is("14: an END, a push and an END twice", x.checkpoint(0), 5);
        x.advance(0);
        x.advance(1);
        Play.settle(x);
        DUE.is("14: done(0) two clocks later", x.done(0), 3);
        DUE.is("14: pull(0, 0)", x.pull(0, 0), -6);
    }

    private static void doneOfWhichShard() {
        for (int h = 0; h < 3; h++) {
            int shard = h;
            DUE.is("15: done(" + h + ") of a new object", new GradientShards(1, 0, 0).done(h), 0);
            DUE.is("15: done(" + h + ")", clocks(0, 2).done(h), 2);
            REFUSED.isMinusOne("15: done(" + h + ") when it is down", () -> allDown(), x -> x.done(shard));
        }
        for (int h : Play.NO_SHARDS) {
            REFUSED.isMinusOne("15: done(" + h + ")", Play::busy, x -> x.done(h));
        }
    }

    private static void doneCountsHandledEnds() {
        GradientShards x = new GradientShards(1, 0, 0);
        x.add(0, 0, 1);
        x.advance(0);
        x.deliver(1);
        DUE.is("15: an early END", x.done(0), 0);
        x.deliver(0);
        DUE.is("15: a handled one", x.done(0), 1);
        x.deliver(0);
        DUE.is("15: one without a push", x.done(1), 1);
        DUE.is("15: one on its way", x.done(2), 0);
    }

    private static void earlyOfWhichShard() {
        for (int h = 0; h < 3; h++) {
            int shard = h;
            DUE.is("16: early(" + h + ")", Play.busy().early(h), h == 0 ? 1 : h == 1 ? 0 : -1);
            REFUSED.isMinusOne("16: early(" + h + ") when it is down", () -> allDown(), x -> x.early(shard));
        }
        for (int h : Play.NO_SHARDS) {
            REFUSED.isMinusOne("16: early(" + h + ")", Play::busy, x -> x.early(h));
        }
    }

    private static void earlyOnAllLinks() {
        GradientShards x = new GradientShards(4, 0, 0);
        for (int w = 0; w < 4; w++) {
            x.add(w, 0, 1);
            x.add(w, 3, 1);
        }
        for (int w = 3; w >= 0; w--) {
            x.deliver(2 * w + 1);
        }
        DUE.is("16: one of each worker", x.early(0), 4);
        for (int w = 0; w < 4; w++) {
            x.deliver(0);
            DUE.is("16: worker " + w + "'s is handled", x.early(0), 3 - w);
        }
        GradientShards y = new GradientShards(1, 0, 0);
        Play.add(y, 1, 20);
        Play.advance(y, 0, 4);
        for (int i = y.packets() - 1; i > 0; i--) {
            y.deliver(i);
        }
        DUE.is("16: all but the first of those in the net", y.early(1), 20);
        y.deliver(0);
        DUE.is("16: and the first", y.early(1), 0);
    }

    private static void keptOfWhom() {
        for (int w : Play.noWorkers(3)) {
            REFUSED.isMinusOne("17: kept(" + w + ", 0)", Play::busy, x -> x.kept(w, 0));
        }
        for (int h : Play.NO_SHARDS) {
            REFUSED.isMinusOne("17: kept(0, " + h + ")", Play::busy, x -> x.kept(0, h));
            REFUSED.isMinusOne("17: kept(" + h + ", " + h + ")", Play::busy, x -> x.kept(h, h));
        }
        for (int workers = 1; workers <= 4; workers++) {
            GradientShards x = new GradientShards(workers, 0, 0);
            x.advance(workers - 1);
            DUE.is("17: the last of " + workers, x.kept(workers - 1, 2), 1);
            DUE.is("17: the one behind it", x.kept(workers, 2), -1);
        }
    }

    private static void keptUpTo24() {
        GradientShards x = new GradientShards(1, 0, 0);
        for (int made = 0; made < 25; made++) {
            DUE.is("17: kept(0, 1)", x.kept(0, 1), Math.min(made, 24));
            boolean more = made < 20 ? x.add(0, 4, 1) : x.advance(0);
            DUE.is("17: one more", more, made < 24);
        }
        x.kill(1);
        DUE.is("17: of a shard that is down", x.kept(0, 1), 24);
    }

    private static void unconfirmedOfWhom() {
        for (int w : Play.noWorkers(3)) {
            REFUSED.isMinusOne("18: unconfirmed(" + w + ", 0)", Play::busy, x -> x.unconfirmed(w, 0));
        }
        for (int h : Play.NO_SHARDS) {
            REFUSED.isMinusOne("18: unconfirmed(0, " + h + ")", Play::busy, x -> x.unconfirmed(0, h));
            REFUSED.isMinusOne("18: unconfirmed(" + h + ", " + h + ")", Play::busy, x -> x.unconfirmed(h, h));
        }
        for (int workers = 1; workers <= 4; workers++) {
            GradientShards x = new GradientShards(workers, 0, 0);
            x.advance(workers - 1);
            DUE.is("18: the last of " + workers, x.unconfirmed(workers - 1, 2), 1);
            DUE.is("18: the one behind it", x.unconfirmed(workers, 2), -1);
        }
    }

    private static void unconfirmedDownTo0() {
        GradientShards x = new GradientShards(1, 0, 0);
        Play.add(x, 2, 3);
        for (int left = 3; left > 0; left--) {
            DUE.is("18: unconfirmed(0, 2)", x.unconfirmed(0, 2), left);
            x.deliver(0);
            x.deliver(x.packets() - 1);
        }
        DUE.is("18: none", x.unconfirmed(0, 2), 0);
        x.kill(2);
        DUE.is("18: none, of a shard that is down", x.unconfirmed(0, 2), 0);
        x.add(0, 2, 1);
        DUE.is("18: one made while it is down", x.unconfirmed(0, 2), 1);
    }
}
