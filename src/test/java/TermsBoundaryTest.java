import java.util.Arrays;

/** The document's 'Terms': each sentence with a boundary, at it, just inside and just outside. */
public final class TermsBoundaryTest {
    private static final Due DUE = new Due("terms' boundaries");
    private static final Refusal REFUSED = new Refusal(DUE);

    private TermsBoundaryTest() { }

    public static void main(String[] args) {
        keyLiesOnShard();
        timeIsZeroAtFirst();
        for (int slack = 0; slack <= 3; slack++) {
            heldAboveSlack(slack, 2);
            heldAboveSlack(slack, 4);
        }
        aloneIsNeverHeld();
        numbersOnEachLink();
        numbersWithoutEnd();
        keptFromStartOn();
        confirmedAtFirstNone();
        netHoldsTwentyFour();
        netFullOfData();
        orderInNet();
        sentAtOnceEvenIfLost();
        latestSendingEvenIfLost();
        earlyFromTurnOn();
        handledByNumber();
        doneIsTheLeast();
        contributionBounds();
        contributionOfEachClock();
        sumBounds();
        sumOfBoundedContributions();
        quotientsOfRule1();
        quotientsOfRule2();
        rootsOfRule2();
        greatMemoryOfRule2();
        appliedOnce();
        appliedInOrderOfClocks();
        checkpointOfTheBeginning();
        boundaryIsZeroIfNoneDone();
        boundaryWithTheEnd();
        DUE.close();
    }

    private static void keyLiesOnShard() {
        for (int k = 0; k < 6; k++) {
            GradientShards x = new GradientShards(1, 0, 0);
            x.add(0, k, 1);
            DUE.is("key " + k + ": packet(0)", x.packet(0), Play.data(0, k % 3, 0));
            for (int h = 0; h < 3; h++) {
                DUE.is("key " + k + ": kept(0, " + h + ")", x.kept(0, h), h == k % 3 ? 1 : 0);
            }
        }
    }

    private static void timeIsZeroAtFirst() {
        GradientShards x = new GradientShards(1, 0, 0);
        x.add(0, 0, 1);
        x.tick();
        x.add(0, 1, 1);
        DUE.is("time 2: the first was sent 2 ago", x.tick(), 0);
        DUE.is("time 3: the first was sent 3 ago", x.tick(), 1);
        DUE.is("time 4: the second was sent 3 ago", x.tick(), 1);
    }

    private static GradientShards ahead(int slack, int workers, int clocks) {
        GradientShards x = new GradientShards(workers, slack, 0);
        Play.advance(x, workers - 1, clocks);
        return x;
    }

    private static void heldAboveSlack(int slack, int workers) {
        String name = "slack " + slack + ", " + workers + " workers: ";
        int w = workers - 1;
        GradientShards x = ahead(slack, workers, slack);
        DUE.is(name + "clock", x.clock(w), slack);
        DUE.yes(name + "add at the slack", x.add(w, 0, 1));
        DUE.yes(name + "advance at the slack", x.advance(w));
        REFUSED.isFalse(name + "add above the slack", () -> ahead(slack, workers, slack + 1), y -> y.add(w, 0, 1));
        REFUSED.isFalse(name + "advance above the slack", () -> ahead(slack, workers, slack + 1), y -> y.advance(w));
        for (int behind = 0; behind < w; behind++) {
            DUE.no(name + "add while worker " + behind + " is behind", x.add(w, 0, 1));
            DUE.yes(name + "add of worker " + behind, x.add(behind, 0, 1));
            DUE.yes(name + "advance of worker " + behind, x.advance(behind));
        }
        DUE.yes(name + "add when all have come up by one", x.add(w, 0, 1));
        DUE.yes(name + "advance when all have come up by one", x.advance(w));
        DUE.no(name + "add above the slack again", x.add(w, 0, 1));
    }

    private static void aloneIsNeverHeld() {
        GradientShards x = new GradientShards(1, 0, 0);
        for (int i = 0; i < 24; i++) {
            DUE.yes("alone: advance number " + i, x.advance(0));
        }
        DUE.is("alone: clock(0)", x.clock(0), 24);
    }

    private static void numbersOnEachLink() {
        GradientShards x = new GradientShards(2, 0, 0);
        x.add(0, 0, 1);
        x.add(0, 3, 1);
        x.add(1, 0, 1);
        x.add(0, 1, 1);
        x.advance(0);
        DUE.is("first of link 0 0", x.packet(0), Play.data(0, 0, 0));
        DUE.is("second of link 0 0, another key", x.packet(1), Play.data(0, 0, 1));
        DUE.is("first of link 1 0", x.packet(2), Play.data(1, 0, 0));
        DUE.is("first of link 0 1", x.packet(3), Play.data(0, 1, 0));
        DUE.is("END on link 0 0", x.packet(4), Play.data(0, 0, 2));
        DUE.is("END on link 0 1", x.packet(5), Play.data(0, 1, 1));
        DUE.is("END on link 0 2", x.packet(6), Play.data(0, 2, 0));
    }

    /** Two pushes and an END that arrive in the reverse order, with a checkpoint after each clock. */
    private static void numbersWithoutEnd() {
        GradientShards x = new GradientShards(1, 0, 0);
        int value = 0;
        for (int c = 0; c < 34; c++) {
            x.add(0, 0, 90);
            x.add(0, 0, 12 - c);
            x.advance(0);
            DUE.is("clock " + c + ": END", x.deliver(2), 1);
            DUE.is("clock " + c + ": second push", x.deliver(1), 1);
            DUE.is("clock " + c + ": both are early", x.early(0), 2);
            DUE.is("clock " + c + ": first push", x.deliver(0), 1);
            DUE.is("clock " + c + ": its ack", x.packet(4), Play.ack(0, 0, 3 * c + 3));
            value -= Math.min(99, 102 - c);
            DUE.is("clock " + c + ": pull", x.pull(0, 0), value);
            DUE.is("clock " + c + ": the other ENDs and all acks", x.run(7), 7);
            for (int h = 0; h < 3; h++) {
                DUE.is("clock " + c + ": checkpoint(" + h + ")", x.checkpoint(h), h == 0 ? 3 : 1);
            }
        }
    }

    private static void keptFromStartOn() {
        GradientShards x = new GradientShards(1, 0, 0);
        DUE.is("START is 0 at first", x.kept(0, 0), 0);
        x.add(0, 0, 1);
        DUE.is("one is kept", x.kept(0, 0), 1);
        x.advance(0);
        x.add(0, 0, 1);
        Play.settle(x);
        DUE.is("handled and confirmed ones are kept", x.kept(0, 0), 3);
        x.checkpoint(0);
        DUE.is("from the boundary on", x.kept(0, 0), 1);
        x.advance(0);
        Play.settle(x);
        x.checkpoint(0);
        DUE.is("none is kept", x.kept(0, 0), 0);
    }

    private static void confirmedAtFirstNone() {
        GradientShards x = new GradientShards(1, 0, 0);
        DUE.is("none made, none unconfirmed", x.unconfirmed(0, 0), 0);
        Play.add(x, 0, 2);
        DUE.is("none confirmed", x.unconfirmed(0, 0), 2);
        x.deliver(0);
        DUE.is("taken is not yet confirmed", x.unconfirmed(0, 0), 2);
        x.deliver(1);
        DUE.is("one confirmed", x.unconfirmed(0, 0), 1);
        Play.settle(x);
        DUE.is("all confirmed", x.unconfirmed(0, 0), 0);
        Play.tick(x, 5);
        DUE.is("then none is sent again", x.count(2), 0);
    }

    private static void netHoldsTwentyFour() {
        GradientShards x = new GradientShards(1, 0, 0);
        x.add(0, 0, 1);
        Play.fill(x, 23);
        DUE.is("packets() before the 24th", x.packets(), 23);
        x.add(0, 1, 1);
        DUE.is("the 24th is in", x.packet(23), Play.data(0, 1, 0));
        DUE.is("and none lost", x.count(1), 0);
        x.add(0, 2, 1);
        DUE.is("packets() with the 25th sent", x.packets(), 24);
        DUE.is("the 25th is lost", x.count(1), 1);
        DUE.is("but sent", x.count(0), 25);
        DUE.is("the newest is the 24th", x.packet(23), Play.data(0, 1, 0));
        DUE.is("the oldest is the first", x.packet(0), Play.data(0, 0, 0));
        x.drop(5);
        x.add(0, 2, 1);
        DUE.is("one has left, one is in", x.packet(23), Play.data(0, 2, 1));
        DUE.is("none more lost", x.count(1), 1);
        DUE.is("the ack has the place of the packet that arrives", x.deliver(0), 1);
        DUE.is("packets() with it", x.packets(), 24);
        DUE.is("the ack is the newest", x.packet(23), Play.ack(0, 0, 1));
        DUE.is("it is not lost", x.count(1), 1);
    }

    /** Of the three ENDs of one call some are put in and some are lost. */
    private static void netFullOfData() {
        for (int room = 0; room <= 3; room++) {
            GradientShards x = new GradientShards(1, 0, 0);
            x.add(0, 0, 1);
            Play.fill(x, 24 - room);
            DUE.yes("advance with room for " + room, x.advance(0));
            DUE.is("packets() with room for " + room, x.packets(), 24);
            DUE.is("lost with room for " + room, x.count(1), 3 - room);
            DUE.is("END 0 with room for " + room, x.packet(24 - room), room > 0 ? Play.data(0, 0, 1) : -1);
            DUE.is("all are kept with room for " + room, x.kept(0, 2), 1);
        }
    }

    private static void orderInNet() {
        GradientShards x = new GradientShards(1, 0, 0);
        Play.add(x, 0, 5);
        x.drop(0);
        DUE.is("the second is the oldest then", x.packet(0), Play.data(0, 0, 1));
        x.drop(3);
        DUE.is("the newest is gone", x.packet(3), -1);
        DUE.is("the one before it stays", x.packet(2), Play.data(0, 0, 3));
        x.drop(1);
        DUE.is("before the gap", x.packet(0), Play.data(0, 0, 1));
        DUE.is("behind the gap", x.packet(1), Play.data(0, 0, 3));
        x.add(0, 0, 1);
        DUE.is("as the newest", x.packet(2), Play.data(0, 0, 5));
    }

    private static GradientShards lostAtTwo() {
        GradientShards x = new GradientShards(1, 0, 0);
        x.kill(0);
        x.add(0, 0, 1);
        Play.fill(x, 24);
        Play.tick(x, 2);
        x.add(0, 1, 1);
        return x;
    }

    private static void sentAtOnceEvenIfLost() {
        GradientShards x = lostAtTwo();
        DUE.is("made and lost: unconfirmed(0, 1)", x.unconfirmed(0, 1), 1);
        DUE.is("made and lost: kept(0, 1)", x.kept(0, 1), 1);
        DUE.is("made and lost: count(1)", x.count(1), 1);
        DUE.is("time 3: link 0 alone", x.tick(), 1);
        Play.dropAll(x);
        DUE.is("time 4: the lost one was sent 2 ago", x.tick(), 0);
        DUE.is("time 5: the lost one was sent 3 ago", x.tick(), 1);
        DUE.is("it is in the net", x.packet(0), Play.data(0, 1, 0));
    }

    private static void latestSendingEvenIfLost() {
        GradientShards x = lostAtTwo();
        Play.tick(x, 2);
        DUE.is("time 5: sent again and lost", x.tick(), 1);
        DUE.is("count(1)", x.count(1), 3);
        Play.dropAll(x);
        DUE.is("time 6: link 0, sent again and lost at 3", x.tick(), 1);
        Play.dropAll(x);
        DUE.is("time 7: 2 ago", x.tick(), 0);
        DUE.is("time 8: 3 ago", x.tick(), 1);
        DUE.is("it is link 1's", x.packet(0), Play.data(0, 1, 0));
    }

    private static void earlyFromTurnOn() {
        GradientShards x = new GradientShards(1, 0, 0);
        Play.add(x, 0, 4);
        DUE.is("none is taken at first", x.early(0), 0);
        x.deliver(0);
        DUE.is("TURN itself comes: none is early", x.early(0), 0);
        x.deliver(1);
        DUE.is("TURN + 1 comes: it is early", x.early(0), 1);
        DUE.is("and TURN stays", x.packet(x.packets() - 1), Play.ack(0, 0, 1));
        x.deliver(1);
        DUE.is("TURN + 2 comes: both are early", x.early(0), 2);
        DUE.is("and TURN stays as before", x.packet(x.packets() - 1), Play.ack(0, 0, 1));
        x.deliver(0);
        DUE.is("TURN comes: none is early any more", x.early(0), 0);
        DUE.is("and TURN is behind all of them", x.packet(x.packets() - 1), Play.ack(0, 0, 4));
    }

    private static void handledByNumber() {
        GradientShards x = new GradientShards(1, 1, 0);
        x.add(0, 0, 99);
        x.add(0, 0, 1);
        x.add(0, 0, -50);
        x.advance(0);
        for (int i = 3; i > 0; i--) {
            x.deliver(i);
            DUE.is("nothing is handled before number 0", x.done(0), 0);
        }
        x.deliver(0);
        DUE.is("all are handled then", x.done(0), 1);
        DUE.is("99, then 1, then -50", x.pull(0, 0), -49);
    }

    private static void doneIsTheLeast() {
        GradientShards x = new GradientShards(3, 3, 0);
        Play.advance(x, 0, 2);
        x.advance(2);
        Play.settle(x);
        DUE.is("2, 0 and 1 ENDs", x.done(0), 0);
        x.advance(1);
        DUE.is("the END is on its way", x.done(0), 0);
        x.deliver(0);
        DUE.is("2, 1 and 1 ENDs", x.done(0), 1);
        DUE.is("not yet on shard 1", x.done(1), 0);
        Play.advance(x, 1, 2);
        Play.settle(x);
        DUE.is("2, 3 and 1 ENDs", x.done(0), 1);
        Play.advance(x, 2, 3);
        Play.settle(x);
        DUE.is("2, 3 and 4 ENDs", x.done(0), 2);
    }

    private static void contributionIs(int due, int... pushes) {
        GradientShards x = new GradientShards(1, 0, 0);
        for (int g : pushes) {
            x.add(0, 3, g);
        }
        x.advance(0);
        Play.settle(x);
        DUE.is("contribution of " + Arrays.toString(pushes), -x.pull(0, 3), due);
    }

    private static void contributionBounds() {
        contributionIs(0);
        contributionIs(98, 98);
        contributionIs(99, 99);
        contributionIs(98, 97, 1);
        contributionIs(99, 98, 1);
        contributionIs(99, 98, 2);
        contributionIs(97, 97, 1, -1);
        contributionIs(98, 98, 1, -1);
        contributionIs(98, 98, 2, -1);
        contributionIs(98, 99, 99, -1);
        contributionIs(-99, -99);
        contributionIs(-98, -97, -1);
        contributionIs(-99, -98, -1);
        contributionIs(-99, -98, -2);
        contributionIs(-97, -97, -1, 1);
        contributionIs(-98, -98, -1, 1);
        contributionIs(-98, -98, -2, 1);
        contributionIs(-98, -99, -99, 1);
        contributionIs(-99, 99, 99, -99, -99, -99);
    }

    private static void contributionOfEachClock() {
        GradientShards x = new GradientShards(1, 3, 0);
        x.add(0, 0, 60);
        x.advance(0);
        x.add(0, 0, 61);
        x.advance(0);
        x.advance(0);
        x.add(0, 0, 62);
        Play.settle(x);
        DUE.is("60 and 61 are not bounded together", x.pull(0, 0), -121);
        DUE.is("a clock without a push is done, too", x.done(0), 3);
        x.advance(0);
        Play.settle(x);
        DUE.is("62 counts when its clock has ended", x.pull(0, 0), -183);
    }

    private static void sumIs(int due, int... contributions) {
        GradientShards x = new GradientShards(contributions.length, 0, 0);
        for (int w = contributions.length - 1; w >= 0; w--) {
            x.add(w, 2, contributions[w]);
            x.advance(w);
        }
        Play.settle(x);
        DUE.is("sum of " + Arrays.toString(contributions), -x.pull(0, 2), due);
    }

    private static void sumBounds() {
        sumIs(98, 49, 49);
        sumIs(99, 50, 49);
        sumIs(99, 50, 50);
        sumIs(97, 50, 48, -1);
        sumIs(98, 50, 49, -1);
        sumIs(98, 50, 50, -1);
        sumIs(99, -1, 50, 50);
        sumIs(-98, -49, -49);
        sumIs(-99, -50, -49);
        sumIs(-99, -50, -50);
        sumIs(-97, -50, -48, 1);
        sumIs(-98, -50, -49, 1);
        sumIs(-98, -50, -50, 1);
        sumIs(-99, 1, -50, -50);
        sumIs(0, 99, 99, 99, -99);
        sumIs(99, -99, 99, 99, 99);
    }

    private static void sumOfBoundedContributions() {
        GradientShards x = new GradientShards(2, 0, 0);
        x.add(0, 0, 60);
        x.add(1, 0, -30);
        x.add(0, 0, 60);
        x.advance(0);
        x.advance(1);
        Play.settle(x);
        DUE.is("99 and -30", x.pull(0, 0), -69);
    }

    private static GradientShards clocksOf(int rule, int... pushes) {
        GradientShards x = new GradientShards(1, 0, rule);
        for (int g : pushes) {
            x.add(0, 0, g);
            x.advance(0);
            Play.settle(x);
        }
        return x;
    }

    private static void quotientsOfRule1() {
        int[] pushed = {0, 1, 2, 3, 4, 5, 99};
        int[] valueAtOne = {0, 0, -1, -1, -2, -2, -49};
        // The memory is that less a quarter, and nothing is pushed.
        int[] valueAtTwo = {0, 0, -2, -2, -3, -4, -49 - 37};
        for (int i = 0; i < pushed.length; i++) {
            int g = pushed[i];
            DUE.is("rule 1: " + g, clocksOf(1, g).pull(0, 0), valueAtOne[i]);
            DUE.is("rule 1: " + -g, clocksOf(1, -g).pull(0, 0), -valueAtOne[i]);
            DUE.is("rule 1: " + g + ", 0", clocksOf(1, g, 0).pull(0, 0), valueAtTwo[i]);
            DUE.is("rule 1: " + -g + ", 0", clocksOf(1, -g, 0).pull(0, 0), -valueAtTwo[i]);
        }
    }

    private static void quotientsOfRule2() {
        int[] pushed = {0, 1, 2, 3, 98, 99};
        int[] value = {0, -32, -42, -48, -63, -63};
        for (int i = 0; i < pushed.length; i++) {
            DUE.is("rule 2: " + pushed[i], clocksOf(2, pushed[i]).pull(0, 0), value[i]);
            DUE.is("rule 2: " + -pushed[i], clocksOf(2, -pushed[i]).pull(0, 0), -value[i]);
        }
    }

    /** Pushes of 1 let the memory grow by 1: squares, and those just below and above them. */
    private static void rootsOfRule2() {
        int[] values = {-32, -64, -96, -117, -138, -159, -180, -201, -217, -233};
        int[] pushes = new int[0];
        for (int memory = 1; memory <= values.length; memory++) {
            pushes = Arrays.copyOf(pushes, memory);
            pushes[memory - 1] = 1;
            DUE.is("rule 2: memory " + memory, clocksOf(2, pushes).pull(0, 0), values[memory - 1]);
        }
    }

    private static void greatMemoryOfRule2() {
        GradientShards x = new GradientShards(1, 0, 2);
        int value = 0;
        int memory = 0;
        for (int c = 0; c < 70; c++) {
            x.add(0, 0, 99);
            x.advance(0);
            DUE.is("rule 2: a push, three ENDs, their acks", x.run(8), 8);
            memory += 99 * 99;
            value -= 64 * 99 / (1 + (int) Math.sqrt(memory));
            DUE.is("rule 2: memory " + memory, x.pull(0, 0), value);
            for (int h = 0; h < 3; h++) {
                x.checkpoint(h);
            }
        }
    }

    private static void appliedOnce() {
        GradientShards x = new GradientShards(1, 0, 0);
        x.add(0, 0, 5);
        x.advance(0);
        Play.fill(x, 8);
        DUE.is("copies of the push", x.packet(7), x.packet(0));
        x.copy(1);
        Play.settle(x);
        DUE.is("doubles of the push and of the END", x.count(3), 5);
        DUE.is("add nothing", x.pull(0, 0), -5);
        DUE.is("and end nothing", x.done(0), 1);
    }

    private static void appliedInOrderOfClocks() {
        GradientShards x = new GradientShards(1, 0, 1);
        x.add(0, 0, 40);
        x.advance(0);
        x.advance(0);
        x.deliver(4);
        x.deliver(1);
        DUE.is("both ENDs are early", x.early(0), 2);
        DUE.is("no clock is done", x.done(0), 0);
        x.deliver(0);
        DUE.is("two are done at once", x.done(0), 2);
        DUE.is("memory 40, then 30", x.pull(0, 0), -35);
    }

    private static void checkpointOfTheBeginning() {
        GradientShards x = new GradientShards(1, 3, 1);
        x.kill(1);
        x.recover(1);
        DUE.is("of a new shard: done(1)", x.done(1), 0);
        DUE.is("of a new shard: unconfirmed(0, 1)", x.unconfirmed(0, 1), 0);
        x.add(0, 4, 40);
        x.advance(0);
        x.advance(0);
        Play.settle(x);
        DUE.is("pull(0, 4)", x.pull(0, 4), -35);
        x.kill(1);
        x.recover(1);
        DUE.is("done(1)", x.done(1), 0);
        DUE.is("the value is 0", x.pull(0, 4), 0);
        DUE.yes("and can be read", x.ready(0, 4));
        DUE.is("all are unconfirmed", x.unconfirmed(0, 1), 3);
        DUE.is("all are kept", x.kept(0, 1), 3);
        DUE.is("none is taken", x.early(1), 0);
        for (int i = 0; i < 3; i++) {
            x.run(20);
        }
        DUE.is("done(1) when all is told again", x.done(1), 2);
        DUE.is("the memory was 0, too", x.pull(0, 4), -35);
    }

    private static void boundaryIsZeroIfNoneDone() {
        GradientShards x = new GradientShards(2, 0, 0);
        Play.add(x, 0, 3);
        x.add(1, 0, 5);
        x.advance(0);
        x.deliver(0);
        x.deliver(4);
        DUE.is("one is confirmed", x.unconfirmed(0, 0), 4);
        Play.settle(x);
        DUE.is("worker 1 has not ended", x.done(0), 0);
        DUE.is("checkpoint(0)", x.checkpoint(0), 0);
        DUE.is("kept(0, 0)", x.kept(0, 0), 4);
        DUE.is("kept(1, 0)", x.kept(1, 0), 1);
        DUE.is("CONFIRMED stays", x.unconfirmed(0, 0), 0);
        x.kill(0);
        x.recover(0);
        DUE.is("unconfirmed(0, 0)", x.unconfirmed(0, 0), 4);
        DUE.is("unconfirmed(1, 0)", x.unconfirmed(1, 0), 1);
    }

    private static void boundaryWithTheEnd() {
        GradientShards x = new GradientShards(2, 3, 0);
        x.add(0, 0, 1);
        x.advance(0);
        x.advance(0);
        x.add(0, 0, 2);
        x.add(1, 0, 3);
        x.add(1, 3, 4);
        x.advance(1);
        x.add(1, 0, 5);
        Play.settle(x);
        DUE.is("done(0)", x.done(0), 1);
        DUE.is("checkpoint(0): 2 of worker 0, 3 of worker 1", x.checkpoint(0), 5);
        DUE.is("its second END and what follows", x.kept(0, 0), 2);
        DUE.is("what follows worker 1's END", x.kept(1, 0), 1);
        x.kill(0);
        x.recover(0);
        DUE.is("told from the boundary on", x.unconfirmed(0, 0), 2);
        Play.tick(x, 3);
        DUE.is("worker 0's first", x.packet(0), Play.data(0, 0, 2));
        DUE.is("worker 1's first", x.packet(1), Play.data(1, 0, 3));
    }
}
