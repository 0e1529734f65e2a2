/** For each promise of the document what it says of ordinary use, with some edges and wrong inputs. */
public final class PromiseTest {
    private static Due due;

    private PromiseTest() { }

    public static void main(String[] args) {
        due = new Due("promises");
        promise1Workers();
        promise1SlackAndRule();
        promise1NothingYet();
        promise2();
        promise2Kept();
        promise3();
        promise3Kept();
        promise4();
        promise5();
        termsContribution();
        termsSum();
        termsRule1();
        termsRule2();
        promise6();
        promise7();
        promise7Order();
        promise7EarlyDouble();
        promise7LongAgo();
        promise7Down();
        promise8();
        promise9();
        promise10();
        promise10Order();
        promise10Lost();
        promise11();
        promise12();
        promise13();
        promise13Memory();
        promise13Early();
        promise14();
        promise14Confirmed();
        promise14Uneven();
        promise15();
        promise16();
        promise17And18();
        promise19And20();
        promise21();
        due.close();
    }

    private static void addTimes(GradientShards x, int k, int times) {
        for (int i = 0; i < times; i++) {
            due.yes("add number " + i + " for key " + k, x.add(0, k, 1));
        }
    }

    /** One clock of a single worker that pushes g for key 0, with all packets delivered. */
    private static void oneClock(GradientShards x, int g) {
        due.yes("add(0, 0, " + g + ")", x.add(0, 0, g));
        due.yes("advance(0)", x.advance(0));
        Play.settle(x);
    }

    private static void promise1Workers() {
        for (int w = 1; w <= 4; w++) {
            GradientShards x = new GradientShards(w, 0, 0);
            due.is("1: last worker of " + w, x.clock(w - 1), 0);
            due.is("1: one more than " + w, x.clock(w), -1);
        }
        for (int wrong : new int[] {0, -1, 5, Integer.MIN_VALUE, Integer.MAX_VALUE}) {
            GradientShards x = new GradientShards(wrong, 0, 0);
            due.is("1: second worker for " + wrong, x.clock(1), 0);
            due.is("1: third worker for " + wrong, x.clock(2), -1);
        }
    }

    private static int advancesBeforeHeld(int slack) {
        GradientShards x = new GradientShards(2, slack, 0);
        int advances = 0;
        while (advances < 10 && x.advance(0)) {
            advances++;
        }
        return advances;
    }

    private static int valueAfterTen(int rule) {
        GradientShards x = new GradientShards(1, 0, rule);
        oneClock(x, 10);
        return x.pull(0, 0);
    }

    private static void promise1SlackAndRule() {
        for (int slack = 0; slack <= 3; slack++) {
            due.is("1: advances with slack " + slack, advancesBeforeHeld(slack), slack + 1);
        }
        for (int wrong : new int[] {-1, 4, Integer.MIN_VALUE, Integer.MAX_VALUE}) {
            due.is("1: advances with slack " + wrong, advancesBeforeHeld(wrong), 1);
        }
        due.is("1: rule 0", valueAfterTen(0), -10);
        due.is("1: rule 1", valueAfterTen(1), -5);
        due.is("1: rule 2", valueAfterTen(2), -58);
        for (int wrong : new int[] {-1, 3, Integer.MIN_VALUE, Integer.MAX_VALUE}) {
            due.is("1: rule " + wrong, valueAfterTen(wrong), -10);
        }
    }

    private static void promise1NothingYet() {
        GradientShards x = new GradientShards(4, 3, 2);
        due.is("1: packets()", x.packets(), 0);
        for (int h = 0; h < 3; h++) {
            due.is("1: done", x.done(h), 0);
            due.is("1: early", x.early(h), 0);
            for (int w = 0; w < 4; w++) {
                due.is("1: kept", x.kept(w, h), 0);
                due.is("1: unconfirmed", x.unconfirmed(w, h), 0);
            }
        }
        for (int k = 0; k < 6; k++) {
            due.yes("1: ready", x.ready(3, k));
            due.is("1: pull", x.pull(3, k), 0);
        }
        for (int kind = 0; kind < 6; kind++) {
            due.is("1: count", x.count(kind), 0);
        }
    }

    private static void promise2() {
        GradientShards x = new GradientShards(4, 0, 0);
        for (int w : Play.noWorkers(4)) {
            due.no("2: add for worker " + w, x.add(w, 0, 1));
        }
        for (int k : Play.NO_KEYS) {
            due.no("2: add for key " + k, x.add(0, k, 1));
        }
        for (int g : new int[] {-100, 100, Integer.MIN_VALUE, Integer.MAX_VALUE}) {
            due.no("2: add of " + g, x.add(0, 0, g));
        }
        due.is("2: refused ones send nothing", x.count(0), 0);
        due.yes("2: add(3, 5, 99)", x.add(3, 5, 99));
        due.yes("2: add(3, 2, -99)", x.add(3, 2, -99));
        due.yes("2: add(3, 1, 0)", x.add(3, 1, 0));
        due.is("2: packet(0)", x.packet(0), 6 + 16);
        due.is("2: packet(1)", x.packet(1), 6 + 16 + 32);
        due.is("2: packet(2)", x.packet(2), 6 + 8);
        due.yes("2: advance(0)", x.advance(0));
        due.no("2: add of a worker that is held", x.add(0, 0, 1));
        due.yes("2: add of one that is not", x.add(1, 0, 1));
        for (int w = 1; w < 4; w++) {
            due.yes("2: advance(" + w + ")", x.advance(w));
        }
        due.yes("2: add when it is held no more", x.add(0, 0, 1));
    }

    private static void promise2Kept() {
        GradientShards x = new GradientShards(1, 0, 0);
        addTimes(x, 0, 10);
        addTimes(x, 3, 9);
        due.yes("2: the 20th", x.add(0, 0, 1));
        due.no("2: the 21st", x.add(0, 0, 1));
        due.no("2: the 21st, for the shard's other key", x.add(0, 3, 1));
        due.is("2: packets()", x.packets(), 20);
        due.yes("2: add on another link", x.add(0, 1, 1));
        Play.settle(x);
        due.is("2: unconfirmed(0, 0)", x.unconfirmed(0, 0), 0);
        due.no("2: confirmed ones count, too", x.add(0, 0, 1));
        due.yes("2: advance(0)", x.advance(0));
        due.no("2: with more than 20", x.add(0, 0, 1));
        Play.settle(x);
        due.is("2: checkpoint(0)", x.checkpoint(0), 21);
        due.yes("2: add when they are kept no more", x.add(0, 0, 1));
        due.is("2: pull(0, 0)", x.pull(0, 0), -11);
        due.is("2: pull(0, 3)", x.pull(0, 3), -9);
    }

    private static void promise3() {
        GradientShards x = new GradientShards(4, 1, 0);
        for (int w : Play.noWorkers(4)) {
            due.no("3: advance(" + w + ")", x.advance(w));
        }
        due.yes("3: add(2, 1, 5)", x.add(2, 1, 5));
        due.yes("3: advance(2)", x.advance(2));
        due.is("3: packets()", x.packets(), 4);
        due.is("3: END for shard 0", x.packet(1), 4);
        due.is("3: END for shard 1", x.packet(2), 4 + 8 + 32);
        due.is("3: END for shard 2", x.packet(3), 4 + 16);
        due.is("3: clock(2)", x.clock(2), 1);
        due.is("3: clock(1)", x.clock(1), 0);
        due.yes("3: advance(2), as far as the slack goes", x.advance(2));
        due.no("3: advance(2), held", x.advance(2));
        due.is("3: clock(2) after that", x.clock(2), 2);
        due.is("3: packets() after that", x.packets(), 7);
        due.yes("3: advance(0)", x.advance(0));
        due.yes("3: advance(1)", x.advance(1));
        due.no("3: advance(2), one worker is still behind", x.advance(2));
        due.yes("3: advance(3)", x.advance(3));
        due.yes("3: advance(2), held no more", x.advance(2));
    }

    private static void promise3Kept() {
        GradientShards x = new GradientShards(1, 0, 0);
        addTimes(x, 2, 20);
        for (int i = 0; i < 4; i++) {
            due.yes("3: advance with fewer than 24 kept", x.advance(0));
        }
        due.is("3: kept(0, 2)", x.kept(0, 2), 24);
        due.is("3: count(1)", x.count(1), 8);
        due.no("3: advance with 24 kept on one link", x.advance(0));
        due.is("3: kept(0, 0)", x.kept(0, 0), 4);
        due.is("3: clock(0)", x.clock(0), 4);
        due.is("3: count(0)", x.count(0), 32);
        for (int i = 0; i < 12; i++) {
            x.run(20);
        }
        due.is("3: unconfirmed(0, 2)", x.unconfirmed(0, 2), 0);
        due.no("3: confirmed ones are kept, too", x.advance(0));
        due.is("3: checkpoint(2)", x.checkpoint(2), 24);
        due.yes("3: advance when they are kept no more", x.advance(0));
    }

    private static void promise4() {
        GradientShards x = new GradientShards(2, 1, 0);
        for (int k : Play.NO_KEYS) {
            due.no("4: ready for key " + k, x.ready(0, k));
        }
        for (int w : new int[] {-1, 2, Integer.MIN_VALUE, Integer.MAX_VALUE}) {
            due.no("4: ready for worker " + w, x.ready(w, 0));
        }
        due.yes("4: ready at clock 0", x.ready(0, 5));
        x.advance(0);
        due.yes("4: ready within the slack", x.ready(0, 5));
        x.advance(0);
        due.no("4: ready beyond the slack", x.ready(0, 5));
        due.yes("4: ready for the other worker", x.ready(1, 5));
        x.advance(1);
        due.no("4: ready before the ENDs arrive", x.ready(0, 5));
        Play.settle(x);
        due.yes("4: ready when the clock is done", x.ready(0, 5));
        x.kill(2);
        due.no("4: ready on a shard that is down", x.ready(1, 2));
        due.yes("4: ready on another shard", x.ready(1, 1));
        x.recover(2);
        due.yes("4: ready at clock 1, the shard is at 0", x.ready(1, 2));
        due.no("4: not ready at clock 2, the shard is at 0", x.ready(0, 2));
    }

    private static void promise5() {
        GradientShards x = new GradientShards(1, 0, 0);
        x.add(0, 4, 8);
        oneClock(x, 5);
        due.is("5: pull(0, 0)", x.pull(0, 0), -5);
        due.is("5: pull(0, 4)", x.pull(0, 4), -8);
        due.is("5: pull(0, 1)", x.pull(0, 1), 0);
        due.is("5: pull(0, 3)", x.pull(0, 3), 0);
        due.is("5: pull(1, 0)", x.pull(1, 0), 0);
        for (int k : Play.NO_KEYS) {
            due.is("5: pull of key " + k, x.pull(0, k), 0);
        }
        for (int w : Play.noWorkers(4)) {
            due.is("5: pull of worker " + w, x.pull(w, 0), 0);
        }
        x.advance(0);
        due.is("5: pull when it can't be read", x.pull(0, 0), 0);
        due.is("5: shard 0's END", x.deliver(0), 1);
        due.is("5: pull when it can be read again", x.pull(0, 0), -5);
        due.is("5: pull of another shard's key", x.pull(0, 4), 0);
        x.kill(0);
        due.is("5: pull of a shard that is down", x.pull(0, 0), 0);
    }

    private static int valueOfClock(int[] pushes, boolean backwards) {
        GradientShards x = new GradientShards(1, 0, 0);
        for (int g : pushes) {
            x.add(0, 0, g);
        }
        x.advance(0);
        for (int i = pushes.length; backwards && i >= 0; i--) {
            due.is("terms: a message out of turn", x.deliver(i), 1);
        }
        Play.settle(x);
        return x.pull(0, 0);
    }

    private static void termsContribution() {
        due.is("terms: more than 99", valueOfClock(new int[] {60, 60, -50}, false), -49);
        due.is("terms: less than -99", valueOfClock(new int[] {-60, -60, 50}, false), 49);
        due.is("terms: just 99", valueOfClock(new int[] {90, 9, -1}, false), -98);
        due.is("terms: by number, not by arrival", valueOfClock(new int[] {60, 60, -50}, true), -49);
        GradientShards x = new GradientShards(1, 0, 0);
        x.add(0, 0, 90);
        x.advance(0);
        x.add(0, 0, 80);
        x.add(0, 3, 7);
        x.advance(0);
        x.add(0, 0, 70);
        Play.settle(x);
        due.is("terms: each clock for itself", x.pull(0, 0), -170);
        due.is("terms: each key for itself", x.pull(0, 3), -7);
        x.advance(0);
        Play.settle(x);
        due.is("terms: the clock that was open", x.pull(0, 0), -240);
    }

    private static void termsSum() {
        GradientShards x = new GradientShards(3, 0, 0);
        x.add(2, 1, -70);
        x.add(1, 1, 80);
        x.add(0, 1, 80);
        x.add(0, 4, -50);
        x.add(1, 4, 99);
        x.add(2, 4, 99);
        for (int w = 2; w >= 0; w--) {
            x.advance(w);
        }
        Play.settle(x);
        due.is("terms: sum by ascending worker, 80 80 -70", x.pull(0, 1), -29);
        due.is("terms: sum by ascending worker, -50 99 99", x.pull(0, 4), -99);
    }

    private static void termsRule1() {
        GradientShards x = new GradientShards(1, 0, 1);
        oneClock(x, -7);
        due.is("rule 1: memory -7", x.pull(0, 0), 3);
        oneClock(x, 0);
        due.is("rule 1: memory -6", x.pull(0, 0), 6);
        oneClock(x, 99);
        due.is("rule 1: memory 94", x.pull(0, 0), -41);
        oneClock(x, 2);
        due.is("rule 1: memory 73", x.pull(0, 0), -77);
    }

    private static void termsRule2() {
        GradientShards x = new GradientShards(1, 0, 2);
        oneClock(x, 0);
        due.is("rule 2: memory 0", x.pull(0, 0), 0);
        oneClock(x, 9);
        due.is("rule 2: memory 81", x.pull(0, 0), -57);
        oneClock(x, 3);
        due.is("rule 2: memory 90", x.pull(0, 0), -57 - 19);
        oneClock(x, -3);
        due.is("rule 2: memory 99", x.pull(0, 0), -57);
        oneClock(x, -1);
        due.is("rule 2: memory 100", x.pull(0, 0), -57 + 5);
        oneClock(x, 99);
        due.is("rule 2: memory 9901", x.pull(0, 0), -52 - 63);
    }

    private static void promise6() {
        GradientShards x = new GradientShards(3, 2, 0);
        for (int w : new int[] {-1, 3, Integer.MIN_VALUE, Integer.MAX_VALUE}) {
            due.is("6: clock(" + w + ")", x.clock(w), -1);
        }
        x.advance(1);
        x.advance(1);
        x.advance(2);
        due.is("6: clock(0)", x.clock(0), 0);
        due.is("6: clock(1)", x.clock(1), 2);
        due.is("6: clock(2)", x.clock(2), 1);
    }

    private static void promise7() {
        GradientShards x = new GradientShards(1, 0, 0);
        due.is("7: deliver(0) of none", x.deliver(0), -1);
        x.add(0, 0, 1);
        x.add(0, 0, 2);
        due.is("7: deliver(-1)", x.deliver(-1), -1);
        due.is("7: deliver(2)", x.deliver(2), -1);
        due.is("7: deliver(max)", x.deliver(Integer.MAX_VALUE), -1);
        due.is("7: an early message", x.deliver(1), 1);
        due.is("7: its ack has TURN 0", x.packet(1), 1);
        due.is("7: that ack", x.deliver(1), 5);
        x.copy(0);
        due.is("7: the message at TURN", x.deliver(0), 1);
        due.is("7: its ack has TURN 2", x.packet(1), 1 + 64);
        due.is("7: a double", x.deliver(0), 2);
        due.is("7: its ack has TURN 2, too", x.packet(1), 1 + 64);
        due.is("7: count(3)", x.count(3), 1);
        due.is("7: unconfirmed(0, 0)", x.unconfirmed(0, 0), 2);
        due.is("7: an ack of more", x.deliver(0), 4);
        due.is("7: unconfirmed(0, 0) then", x.unconfirmed(0, 0), 0);
        due.is("7: an ack of just as many", x.deliver(0), 5);
        due.is("7: packets()", x.packets(), 0);
    }

    private static void promise7Order() {
        GradientShards x = new GradientShards(2, 0, 0);
        x.add(1, 2, 1);
        x.add(1, 2, 1);
        x.add(1, 2, 1);
        due.is("7: message 2", x.deliver(2), 1);
        x.copy(2);
        due.is("7: packet(2)", x.packet(2), 1 + 2 + 16);
        x.drop(3);
        x.copy(0);
        x.drop(0);
        due.is("7: message 1", x.deliver(0), 1);
        due.is("7: message 0", x.deliver(1), 1);
        due.is("7: the newest has TURN 3", x.packet(2), 1 + 2 + 16 + 96);
        due.is("7: the ack of 3 comes first", x.deliver(2), 4);
        due.is("7: an ack of less", x.deliver(0), 5);
        due.is("7: confirmed stays", x.unconfirmed(1, 2), 0);
        due.is("7: the other worker's link", x.unconfirmed(0, 2), 0);
        due.is("7: all is handled", x.early(2), 0);
    }

    private static void promise7EarlyDouble() {
        GradientShards x = new GradientShards(1, 0, 0);
        x.add(0, 0, 1);
        x.add(0, 0, 2);
        x.copy(1);
        due.is("7: an early message", x.deliver(1), 1);
        due.is("7: an early message again", x.deliver(1), 2);
        due.is("7: early(0)", x.early(0), 1);
        due.is("7: both acks have TURN 0", x.packet(1) + x.packet(2), 2);
    }

    /** A copy of message 0 stays in the net while 32 more messages are made and most are taken. */
    private static void promise7LongAgo() {
        GradientShards x = new GradientShards(1, 0, 0);
        x.add(0, 0, 1);
        x.copy(0);
        for (int clock = 0; clock < 16; clock++) {
            due.yes("7: advance(0)", x.advance(0));
            deliverAllButTheOldest(x);
            x.checkpoint(0);
            if (clock < 15) {
                due.yes("7: add(0, 0, 2)", x.add(0, 0, 2));
            }
        }
        due.is("7: pull(0, 0)", x.pull(0, 0), -31);
        x.add(0, 0, 3);
        x.add(0, 0, 4);
        due.is("7: message 32", x.packet(1), 32 * 32);
        due.is("7: message 0 from long ago", x.deliver(0), 2);
        due.is("7: its ack has TURN 32", x.packet(2), 1 + 32 * 32);
        due.is("7: message 33", x.deliver(1), 1);
        due.is("7: is early", x.early(0), 1);
        due.is("7: message 32 is new", x.deliver(0), 1);
        due.is("7: none is early", x.early(0), 0);
        x.advance(0);
        Play.settle(x);
        due.is("7: pull(0, 0) then", x.pull(0, 0), -38);
    }

    private static void deliverAllButTheOldest(GradientShards x) {
        for (int i = 0; i < 40 && x.packets() > 1; i++) {
            x.deliver(1);
        }
    }

    private static void promise7Down() {
        GradientShards x = new GradientShards(1, 0, 0);
        x.kill(0);
        x.add(0, 0, 1);
        due.is("7: to a shard that is down", x.deliver(0), 3);
        due.is("7: no ack of it", x.packets(), 0);
        due.is("7: count(0)", x.count(0), 1);
        due.is("7: it is no double", x.count(3), 0);
        x.recover(0);
        due.is("7: it was not taken", x.early(0), 0);
        x.tick();
        x.tick();
        due.is("7: sent again", x.tick(), 1);
        due.is("7: now it is taken", x.deliver(0), 1);
    }

    private static void promise8() {
        GradientShards x = new GradientShards(1, 0, 0);
        due.no("8: drop(0) of none", x.drop(0));
        x.add(0, 0, 1);
        x.add(0, 1, 1);
        x.add(0, 2, 1);
        due.no("8: drop(-1)", x.drop(-1));
        due.no("8: drop(3)", x.drop(3));
        due.no("8: drop(min)", x.drop(Integer.MIN_VALUE));
        due.is("8: packets() so far", x.packets(), 3);
        due.yes("8: drop(1)", x.drop(1));
        due.is("8: packets()", x.packets(), 2);
        due.is("8: packet(0)", x.packet(0), 0);
        due.is("8: packet(1)", x.packet(1), 16);
        due.is("8: it isn't counted as lost", x.count(1), 0);
        due.is("8: it never arrives", x.run(4), 4);
        due.is("8: unconfirmed(0, 1)", x.unconfirmed(0, 1), 1);
        due.is("8: kept(0, 1)", x.kept(0, 1), 1);
    }

    private static void promise9() {
        GradientShards x = new GradientShards(1, 0, 0);
        due.no("9: copy(0) of none", x.copy(0));
        x.add(0, 0, 1);
        x.add(0, 1, 1);
        due.no("9: copy(-1)", x.copy(-1));
        due.no("9: copy(2)", x.copy(2));
        due.is("9: count(0) so far", x.count(0), 2);
        x.tick();
        x.tick();
        due.yes("9: copy(0)", x.copy(0));
        due.is("9: it is the newest", x.packet(2), 0);
        due.is("9: the other one stays", x.packet(0), 0);
        due.is("9: count(0)", x.count(0), 3);
        due.is("9: the latest sending is as before", x.tick(), 2);
        due.is("9: packets()", x.packets(), 5);
        x.deliver(0);
        due.yes("9: copy of an ack", x.copy(4));
        due.is("9: the ack again", x.packet(5), 1 + 32);
        for (int i = 6; i < 24; i++) {
            due.yes("9: copy with " + i, x.copy(0));
        }
        due.is("9: packets() now", x.packets(), 24);
        int sent = x.count(0);
        due.no("9: copy with 24", x.copy(0));
        due.is("9: a refused one isn't sent", x.count(0), sent);
        due.is("9: nor lost", x.count(1), 0);
        due.is("9: nor sent again", x.count(2), 2);
    }

    private static void promise10() {
        GradientShards x = new GradientShards(1, 0, 0);
        due.is("10: tick of nothing", x.tick(), 0);
        x.add(0, 0, 1);
        x.tick();
        x.add(0, 0, 2);
        x.drop(0);
        due.is("10: 2 ago", x.tick(), 0);
        due.is("10: 3 ago", x.tick(), 1);
        due.is("10: only the first one", x.packets(), 2);
        due.is("10: which is message 0", x.packet(1), 0);
        due.is("10: count(2)", x.count(2), 1);
        due.is("10: 1 after it was sent again", x.tick(), 0);
        due.is("10: message 0 arrives", x.deliver(1), 1);
        due.is("10: its ack", x.deliver(1), 4);
        due.is("10: message 1, 4 ago", x.tick(), 1);
        due.is("10: packet(1)", x.packet(1), 32);
        Play.settle(x);
        for (int i = 0; i < 5; i++) {
            due.is("10: all is confirmed", x.tick(), 0);
        }
        due.is("10: count(2) then", x.count(2), 2);
    }

    private static void promise10Order() {
        GradientShards x = new GradientShards(2, 0, 0);
        x.add(1, 5, 1);
        x.add(1, 0, 1);
        x.add(0, 4, 1);
        x.add(0, 4, 1);
        Play.dropAll(x);
        due.is("10: time 1", x.tick(), 0);
        due.is("10: time 2", x.tick(), 0);
        due.is("10: time 3", x.tick(), 3);
        due.is("10: worker 0, shard 1", x.packet(0), 8);
        due.is("10: worker 1, shard 0", x.packet(1), 2);
        due.is("10: worker 1, shard 2", x.packet(2), 2 + 16);
        due.is("10: no more than these", x.packets(), 3);
    }

    private static void promise10Lost() {
        GradientShards x = new GradientShards(1, 0, 0);
        x.add(0, 0, 1);
        for (int i = 1; i < 24; i++) {
            x.copy(0);
        }
        x.add(0, 1, 1);
        due.is("10: the new message is lost", x.count(1), 1);
        due.is("10: but made", x.unconfirmed(0, 1), 1);
        x.tick();
        x.tick();
        due.is("10: lost ones are counted", x.tick(), 2);
        due.is("10: count(1)", x.count(1), 3);
        due.is("10: count(2)", x.count(2), 2);
        due.is("10: count(0)", x.count(0), 27);
        due.is("10: packets()", x.packets(), 24);
        due.is("10: the lost sending is the latest", x.tick(), 0);
        due.is("10: 2 ago", x.tick(), 0);
        due.is("10: 3 ago", x.tick(), 2);
    }

    private static void promise11() {
        GradientShards x = new GradientShards(1, 0, 0);
        x.add(0, 0, 4);
        for (int n : new int[] {0, 21, -1, Integer.MIN_VALUE, Integer.MAX_VALUE}) {
            due.is("11: run(" + n + ")", x.run(n), -1);
        }
        due.is("11: packets() so far", x.packets(), 1);
        x.drop(0);
        due.is("11: three ticks, the message, its ack", x.run(5), 2);
        due.is("11: unconfirmed(0, 0)", x.unconfirmed(0, 0), 0);
        due.is("11: count(2)", x.count(2), 1);
        x.add(0, 1, 4);
        due.is("11: run(1)", x.run(1), 1);
        due.is("11: the ack is still there", x.packets(), 1);
        due.is("11: run(20)", x.run(20), 1);
        x.kill(2);
        x.add(0, 2, 4);
        due.is("11: to a shard that is down, each 3 ticks", x.run(9), 3);
        addTimes(x, 1, 15);
        addTimes(x, 0, 5);
        due.is("11: 20 of 20", x.run(20), 20);
        due.is("11: their acks", x.packets(), 20);
    }

    private static void promise12() {
        GradientShards x = new GradientShards(2, 0, 0);
        for (int h : Play.NO_SHARDS) {
            due.no("12: kill(" + h + ")", x.kill(h));
        }
        x.add(0, 0, 1);
        x.add(0, 1, 1);
        x.add(1, 1, 1);
        x.add(1, 2, 1);
        x.add(1, 4, 1);
        x.deliver(1);
        due.is("12: an ack of shard 1", x.packet(4), 1 + 8 + 32);
        due.yes("12: kill(1)", x.kill(1));
        due.is("12: packets()", x.packets(), 2);
        due.is("12: packet(0)", x.packet(0), 0);
        due.is("12: packet(1)", x.packet(1), 2 + 16);
        due.is("12: they aren't lost", x.count(1), 0);
        due.no("12: kill(1) again", x.kill(1));
        due.is("12: done(1)", x.done(1), -1);
        due.is("12: early(1)", x.early(1), -1);
        due.is("12: the messages are still kept", x.kept(1, 1), 2);
        due.yes("12: kill(0)", x.kill(0));
        due.is("12: packets() then", x.packets(), 1);
        x.add(0, 0, 1);
        due.no("12: kill(0) again", x.kill(0));
        due.is("12: a refused one takes no packet", x.packets(), 2);
        due.yes("12: recover(0)", x.recover(0));
        due.yes("12: kill(0) after that", x.kill(0));
    }

    private static void promise13() {
        GradientShards x = new GradientShards(1, 1, 0);
        for (int h : Play.NO_SHARDS) {
            due.no("13: recover(" + h + ")", x.recover(h));
        }
        due.no("13: recover(0) when it is up", x.recover(0));
        due.is("13: count(5) so far", x.count(5), 0);
        oneClock(x, 10);
        x.kill(0);
        due.is("13: confirmed stays when it's killed", x.unconfirmed(0, 0), 0);
        due.yes("13: recover(0) to the beginning", x.recover(0));
        due.is("13: done(0)", x.done(0), 0);
        due.is("13: unconfirmed(0, 0)", x.unconfirmed(0, 0), 2);
        due.is("13: pull(0, 0)", x.pull(0, 0), 0);
        due.no("13: recover(0) again", x.recover(0));
        due.yes("13: it's told again", x.run(20) > 0);
        due.is("13: pull(0, 0) then", x.pull(0, 0), -10);
        due.is("13: checkpoint(0)", x.checkpoint(0), 2);
        oneClock(x, 20);
        due.is("13: pull(0, 0) at 2", x.pull(0, 0), -30);
        x.kill(0);
        x.add(0, 0, 5);
        due.yes("13: recover(0) to clock 1", x.recover(0));
        due.is("13: done(0) at 1", x.done(0), 1);
        due.is("13: pull(0, 0) at 1", x.pull(0, 0), -10);
        due.is("13: unconfirmed(0, 0) at 1", x.unconfirmed(0, 0), 3);
        due.is("13: kept(0, 0) at 1", x.kept(0, 0), 3);
        due.is("13: the one made meanwhile is early", x.deliver(0), 1);
        due.is("13: early(0)", x.early(0), 1);
        due.is("13: with TURN 2", x.packet(0), 1 + 64);
        due.is("13: which says nothing new", x.deliver(0), 5);
        x.run(20);
        due.is("13: done(0) at 2", x.done(0), 2);
        due.is("13: pull(0, 0) at 2 again", x.pull(0, 0), -30);
        due.is("13: count(5)", x.count(5), 2);
        due.is("13: the other shards stay", x.done(1), 2);
    }

    private static void promise13Memory() {
        GradientShards x = new GradientShards(1, 1, 1);
        oneClock(x, 40);
        due.is("13: memory 40", x.pull(0, 0), -20);
        due.is("13: checkpoint(0)", x.checkpoint(0), 2);
        oneClock(x, 0);
        due.is("13: memory 30", x.pull(0, 0), -35);
        x.kill(0);
        x.recover(0);
        due.is("13: back at memory 40", x.pull(0, 0), -20);
        x.run(20);
        due.is("13: memory 30 again", x.pull(0, 0), -35);
        oneClock(x, 0);
        due.is("13: memory 23", x.pull(0, 0), -46);
        x.kill(0);
        x.recover(0);
        x.run(20);
        due.is("13: told all again", x.pull(0, 0), -46);
        due.is("13: done(0)", x.done(0), 3);
    }

    private static void promise13Early() {
        GradientShards x = new GradientShards(1, 0, 0);
        x.add(0, 0, 1);
        x.add(0, 0, 2);
        x.deliver(1);
        due.is("13: early(0) so far", x.early(0), 1);
        x.kill(0);
        x.recover(0);
        due.is("13: early ones are forgotten", x.early(0), 0);
        x.run(4);
        due.is("13: message 0, its ack and no more", x.run(1), 1);
        due.is("13: message 1 is unconfirmed", x.unconfirmed(0, 0), 1);
        due.is("13: it is sent again", x.tick(), 1);
        due.is("13: and taken again", x.deliver(0), 1);
        due.is("13: so it's no double", x.count(3), 0);
    }

    private static void promise14() {
        GradientShards x = new GradientShards(2, 0, 0);
        for (int h : Play.NO_SHARDS) {
            due.is("14: checkpoint(" + h + ")", x.checkpoint(h), -1);
        }
        due.is("14: count(4) so far", x.count(4), 0);
        due.is("14: checkpoint(1) of nothing", x.checkpoint(1), 0);
        due.is("14: is one, too", x.count(4), 1);
        x.add(0, 1, 3);
        x.add(0, 4, 4);
        x.add(1, 1, 5);
        x.advance(0);
        x.advance(1);
        x.add(0, 1, 6);
        Play.settle(x);
        due.is("14: checkpoint(1)", x.checkpoint(1), 5);
        due.is("14: kept(0, 1)", x.kept(0, 1), 1);
        due.is("14: kept(1, 1)", x.kept(1, 1), 0);
        due.is("14: kept(0, 0)", x.kept(0, 0), 1);
        due.is("14: confirmed is not made less", x.unconfirmed(0, 1), 0);
        due.is("14: checkpoint(1) again", x.checkpoint(1), 0);
        x.kill(1);
        due.is("14: checkpoint(1) when it is down", x.checkpoint(1), -1);
        due.is("14: count(4)", x.count(4), 3);
        x.recover(1);
        due.is("14: what was handled after it is told again", x.unconfirmed(0, 1), 1);
        due.is("14: the other link", x.unconfirmed(1, 1), 0);
        due.is("14: pull(1, 1)", x.pull(1, 1), -8);
        due.is("14: pull(1, 4)", x.pull(1, 4), -4);
        x.advance(0);
        x.advance(1);
        for (int i = 0; i < 3; i++) {
            x.run(20);
        }
        due.is("14: pull(1, 1) a clock later", x.pull(1, 1), -14);
        due.is("14: pull(1, 4) a clock later", x.pull(1, 4), -4);
    }

    private static void promise14Confirmed() {
        GradientShards x = new GradientShards(1, 0, 0);
        x.add(0, 0, 7);
        x.copy(0);
        x.advance(0);
        due.is("14: message 0", x.deliver(0), 1);
        due.is("14: message 1", x.deliver(1), 1);
        due.is("14: done(0)", x.done(0), 1);
        due.is("14: unconfirmed(0, 0) so far", x.unconfirmed(0, 0), 2);
        x.add(0, 0, 1);
        due.is("14: checkpoint(0)", x.checkpoint(0), 2);
        due.is("14: unconfirmed(0, 0)", x.unconfirmed(0, 0), 1);
        due.is("14: kept(0, 0)", x.kept(0, 0), 1);
        due.is("14: a message before START", x.deliver(0), 2);
        due.is("14: its ack", x.packet(x.packets() - 1), 1 + 64);
        due.is("14: that says nothing new", x.deliver(x.packets() - 1), 5);
    }

    private static void promise14Uneven() {
        GradientShards x = new GradientShards(2, 3, 0);
        x.add(0, 0, 1);
        x.advance(0);
        x.add(0, 0, 2);
        x.advance(0);
        x.advance(1);
        x.add(1, 0, 4);
        x.add(1, 0, 4);
        Play.settle(x);
        due.is("14: done(0)", x.done(0), 1);
        due.is("14: only what the least worker has ended", x.checkpoint(0), 3);
        due.is("14: kept(0, 0)", x.kept(0, 0), 2);
        due.is("14: kept(1, 0)", x.kept(1, 0), 2);
        x.kill(0);
        x.recover(0);
        due.is("14: unconfirmed(0, 0)", x.unconfirmed(0, 0), 2);
        due.is("14: unconfirmed(1, 0)", x.unconfirmed(1, 0), 2);
        x.advance(1);
        for (int i = 0; i < 4; i++) {
            x.run(20);
        }
        due.is("14: done(0) then", x.done(0), 2);
        due.is("14: pull(1, 0)", x.pull(1, 0), -11);
    }

    private static void promise15() {
        GradientShards x = new GradientShards(2, 3, 0);
        for (int h : Play.NO_SHARDS) {
            due.is("15: done(" + h + ")", x.done(h), -1);
        }
        x.advance(0);
        x.advance(0);
        x.add(1, 0, 1);
        x.advance(1);
        Play.settle(x);
        due.is("15: done(0)", x.done(0), 1);
        x.add(1, 0, 1);
        x.advance(1);
        due.is("15: an END that is early", x.deliver(1), 1);
        due.is("15: counts not yet", x.done(0), 1);
        due.is("15: what it waits for", x.deliver(0), 1);
        due.is("15: counts then", x.done(0), 2);
        due.is("15: done(1)", x.done(1), 1);
        x.kill(0);
        due.is("15: done(0) when it is down", x.done(0), -1);
        x.recover(0);
        due.is("15: done(0) when it is up", x.done(0), 0);
    }

    private static void promise16() {
        GradientShards x = new GradientShards(2, 0, 0);
        for (int h : Play.NO_SHARDS) {
            due.is("16: early(" + h + ")", x.early(h), -1);
        }
        for (int i = 0; i < 4; i++) {
            x.add(0, 2, 1);
        }
        x.add(1, 2, 1);
        x.add(1, 2, 1);
        x.deliver(5);
        x.deliver(3);
        x.deliver(1);
        due.is("16: of both workers", x.early(2), 3);
        due.is("16: of another shard", x.early(1), 0);
        x.deliver(0);
        due.is("16: 0 and 1 are handled, 3 is early", x.early(2), 2);
        x.deliver(1);
        due.is("16: that was worker 1's first", x.early(2), 1);
        x.kill(2);
        due.is("16: early(2) when it is down", x.early(2), -1);
    }

    private static void promise17And18() {
        GradientShards x = new GradientShards(2, 0, 0);
        for (int h : Play.NO_SHARDS) {
            due.is("17: kept(0, " + h + ")", x.kept(0, h), -1);
            due.is("18: unconfirmed(0, " + h + ")", x.unconfirmed(0, h), -1);
        }
        for (int w : new int[] {-1, 2, Integer.MIN_VALUE, Integer.MAX_VALUE}) {
            due.is("17: kept(" + w + ", 0)", x.kept(w, 0), -1);
            due.is("18: unconfirmed(" + w + ", 0)", x.unconfirmed(w, 0), -1);
        }
        x.add(1, 4, 1);
        x.add(1, 1, 1);
        x.advance(1);
        due.is("17: kept(1, 1)", x.kept(1, 1), 3);
        due.is("17: kept(1, 0)", x.kept(1, 0), 1);
        due.is("17: kept(0, 1)", x.kept(0, 1), 0);
        due.is("18: unconfirmed(1, 1) so far", x.unconfirmed(1, 1), 3);
        x.deliver(0);
        x.deliver(x.packets() - 1);
        due.is("18: unconfirmed(1, 1)", x.unconfirmed(1, 1), 2);
        due.is("18: unconfirmed(1, 0)", x.unconfirmed(1, 0), 1);
        due.is("18: unconfirmed(0, 1)", x.unconfirmed(0, 1), 0);
        due.is("17: kept(1, 1) is as before", x.kept(1, 1), 3);
        x.kill(1);
        due.is("17: kept(1, 1) of a shard that is down", x.kept(1, 1), 3);
        due.is("18: unconfirmed(1, 1) of it", x.unconfirmed(1, 1), 2);
    }

    private static void promise19And20() {
        GradientShards x = new GradientShards(4, 0, 0);
        due.is("20: packet(0) of none", x.packet(0), -1);
        x.add(3, 5, 1);
        x.add(3, 5, 1);
        x.add(2, 1, 1);
        due.is("19: packets()", x.packets(), 3);
        due.is("20: packet(-1)", x.packet(-1), -1);
        due.is("20: packet(3)", x.packet(3), -1);
        due.is("20: packet(max)", x.packet(Integer.MAX_VALUE), -1);
        due.is("20: packet(1)", x.packet(1), 6 + 16 + 32);
        due.is("20: packet(2)", x.packet(2), 4 + 8);
        x.deliver(0);
        due.is("20: an ack", x.packet(2), 1 + 6 + 16 + 32);
        for (int i = 0; i < 21; i++) {
            due.yes("19: add", x.add(i % 2, 0, 1));
        }
        due.is("19: packets() when it's full", x.packets(), 24);
        due.yes("19: add to a full net", x.add(0, 0, 1));
        due.is("19: packets() after it", x.packets(), 24);
        due.is("20: the newest is not the lost one", x.packet(23), 10 * 32);
        due.is("20: packet(24)", x.packet(24), -1);
    }

    private static void promise21() {
        GradientShards x = new GradientShards(1, 0, 0);
        for (int kind : new int[] {-1, 6, Integer.MIN_VALUE, Integer.MAX_VALUE}) {
            due.is("21: count(" + kind + ")", x.count(kind), -1);
        }
        x.add(0, 0, 1);
        for (int i = 0; i < 23; i++) {
            x.copy(0);
        }
        x.advance(0);
        due.is("21: sent, with copies and lost ones", x.count(0), 27);
        due.is("21: lost", x.count(1), 3);
        x.drop(0);
        x.deliver(0);
        x.deliver(0);
        due.is("21: sent, with acks", x.count(0), 29);
        due.is("21: doubles", x.count(3), 1);
        x.tick();
        x.tick();
        x.tick();
        due.is("21: sent again", x.count(2), 3);
        due.is("21: sent, with those", x.count(0), 32);
        due.is("21: lost, with two of those", x.count(1), 5);
        x.checkpoint(0);
        x.checkpoint(1);
        x.kill(2);
        x.checkpoint(2);
        x.recover(2);
        x.recover(2);
        due.is("21: checkpoints", x.count(4), 2);
        due.is("21: recoveries", x.count(5), 1);
        x.kill(2);
        due.is("21: no recovery yet", x.count(5), 1);
    }
}
