/**
 * Parameters on three shards that workers train together, clock by clock, over a net that loses,
 * doubles and disorders packets. The document's promises are named where they are kept.
 */
public final class GradientShards {
    private static final int SHARDS = 3;
    private static final int KEYS = 6;
    private static final int KEYS_PER_SHARD = 2;
    private static final int GREATEST = 99;
    private static final int NET_LIMIT = 24;
    private static final int KEPT_LIMIT = 24;
    private static final int KEPT_LIMIT_FOR_PUSH = 20;
    private static final int RESEND_AFTER = 3;
    private static final int MOST_STEPS = 20;

    private static final int TOOK = 1;
    private static final int DOUBLE = 2;
    private static final int SHARD_IS_DOWN = 3;
    private static final int CONFIRMED_MORE = 4;
    private static final int CONFIRMED_NO_MORE = 5;

    private static final int DATA = 0;
    private static final int ACK = 1;

    private final int slack;
    private final int[] clocks;
    private final Shard[] shards;
    private final Net net;
    private int time;
    private int sentAgain;
    private int doubles;
    private int checkpoints;
    private int recoveries;

    /** Promise 1. */
    public GradientShards(int workers, int slack, int rule) {
        int usedWorkers = workers >= 1 && workers <= 4 ? workers : 2;
        int usedRule = rule >= 0 && rule <= 2 ? rule : 0;
        this.slack = slack >= 0 && slack <= 3 ? slack : 0;
        this.clocks = new int[usedWorkers];
        this.shards = new Shard[SHARDS];
        for (int h = 0; h < SHARDS; h++) {
            this.shards[h] = new Shard(h, usedWorkers, usedRule);
        }
        this.net = new Net();
    }

    /** Promise 2. */
    public boolean add(int w, int k, int g) {
        if (!isWorker(w) || !isKey(k) || g < -GREATEST || g > GREATEST || isHeld(w)) {
            return false;
        }
        Link link = linkOf(w, k % SHARDS);
        if (link.keptNumber() >= KEPT_LIMIT_FOR_PUSH) {
            return false;
        }
        makeMessage(link, k / SHARDS, g);
        return true;
    }

    /** Promise 3. */
    public boolean advance(int w) {
        if (!isWorker(w) || isHeld(w) || keepsTooManyToEnd(w)) {
            return false;
        }
        for (int h = 0; h < SHARDS; h++) {
            makeMessage(linkOf(w, h), Link.END, 0);
        }
        clocks[w]++;
        return true;
    }

    /** Promise 4. */
    public boolean ready(int w, int k) {
        if (!isWorker(w) || !isKey(k)) {
            return false;
        }
        Shard shard = shards[k % SHARDS];
        return shard.up && shard.clocksDone >= clocks[w] - slack;
    }

    /** Promise 5. */
    public int pull(int w, int k) {
        return ready(w, k) ? shards[k % SHARDS].values[k / SHARDS] : 0;
    }

    /** Promise 6. */
    public int clock(int w) {
        return isWorker(w) ? clocks[w] : -1;
    }

    /** Promise 7. */
    public int deliver(int i) {
        if (!net.holds(i)) {
            return -1;
        }
        int code = net.codes[i];
        net.remove(i);
        Shard shard = shards[Net.shardOf(code)];
        Link link = shard.links[Net.workerOf(code)];
        if (Net.kindOf(code) == ACK) {
            return link.confirm(Net.numberOf(code)) ? CONFIRMED_MORE : CONFIRMED_NO_MORE;
        }
        return arrive(shard, link, Net.numberOf(code));
    }

    /** Promise 8. */
    public boolean drop(int i) {
        if (!net.holds(i)) {
            return false;
        }
        net.remove(i);
        return true;
    }

    /** Promise 9. */
    public boolean copy(int i) {
        if (!net.holds(i) || net.isFull()) {
            return false;
        }
        net.send(net.codes[i]);
        return true;
    }

    /** Promise 10. */
    public int tick() {
        time++;
        int again = 0;
        for (int w = 0; w < clocks.length; w++) {
            for (int h = 0; h < SHARDS; h++) {
                Link link = linkOf(w, h);
                if (link.isDueAgain(time)) {
                    sendMessage(link, link.confirmed);
                    again++;
                }
            }
        }
        sentAgain += again;
        return again;
    }

    /** Promise 11. */
    public int run(int n) {
        if (n < 1 || n > MOST_STEPS) {
            return -1;
        }
        int delivered = 0;
        for (int step = 0; step < n; step++) {
            if (net.size > 0) {
                deliver(0);
                delivered++;
            } else {
                tick();
            }
        }
        return delivered;
    }

    /** Promise 12. */
    public boolean kill(int h) {
        if (!isUp(h)) {
            return false;
        }
        // What the shard forgets is not wiped here: nothing reads it before recover writes over it.
        shards[h].up = false;
        net.removeAllOf(h);
        return true;
    }

    /** Promise 13. */
    public boolean recover(int h) {
        if (!isShard(h) || shards[h].up) {
            return false;
        }
        shards[h].goBackToCheckpoint();
        recoveries++;
        return true;
    }

    /** Promise 14. */
    public int checkpoint(int h) {
        if (!isUp(h)) {
            return -1;
        }
        checkpoints++;
        return shards[h].makeCheckpoint();
    }

    /** Promise 15. */
    public int done(int h) {
        return isUp(h) ? shards[h].clocksDone : -1;
    }

    /** Promise 16. */
    public int early(int h) {
        return isUp(h) ? shards[h].earlyNumber() : -1;
    }

    /** Promise 17. */
    public int kept(int w, int h) {
        return isWorker(w) && isShard(h) ? linkOf(w, h).keptNumber() : -1;
    }

    /** Promise 18. */
    public int unconfirmed(int w, int h) {
        return isWorker(w) && isShard(h) ? linkOf(w, h).unconfirmedNumber() : -1;
    }

    /** Promise 19. */
    public int packets() {
        return net.size;
    }

    /** Promise 20. */
    public int packet(int i) {
        return net.holds(i) ? net.codes[i] : -1;
    }

    /** Promise 21. */
    public int count(int kind) {
        switch (kind) {
            case 0: return net.sent;
            case 1: return net.lost;
            case 2: return sentAgain;
            case 3: return doubles;
            case 4: return checkpoints;
            case 5: return recoveries;
            default: return -1;
        }
    }

    private boolean isWorker(int w) {
        return w >= 0 && w < clocks.length;
    }

    private static boolean isKey(int k) {
        return k >= 0 && k < KEYS;
    }

    private static boolean isShard(int h) {
        return h >= 0 && h < SHARDS;
    }

    private boolean isUp(int h) {
        return isShard(h) && shards[h].up;
    }

    private boolean isHeld(int w) {
        int least = clocks[w];
        for (int other : clocks) {
            least = Math.min(least, other);
        }
        return clocks[w] - least > slack;
    }

    private boolean keepsTooManyToEnd(int w) {
        for (int h = 0; h < SHARDS; h++) {
            if (linkOf(w, h).keptNumber() >= KEPT_LIMIT) {
                return true;
            }
        }
        return false;
    }

    private Link linkOf(int w, int h) {
        return shards[h].links[w];
    }

    private void makeMessage(Link link, int place, int g) {
        sendMessage(link, link.append(place, g));
    }

    private void sendMessage(Link link, int number) {
        link.noteSending(number, time);
        net.send(Net.codeOf(DATA, link, number));
    }

    private int arrive(Shard shard, Link link, int number) {
        if (!shard.up) {
            return SHARD_IS_DOWN;
        }
        boolean isDouble = link.hasTaken(number);
        if (isDouble) {
            doubles++;
        } else {
            link.take(number);
            shard.applyEndedClocks();
        }
        net.send(Net.codeOf(ACK, link, link.turn));
        return isDouble ? DOUBLE : TOOK;
    }

    /** Needed after each single addition: bounding once at the end would give other sums. */
    private static int bounded(int sum) {
        if (sum < -GREATEST) {
            return -GREATEST;
        }
        return sum > GREATEST ? GREATEST : sum;
    }

    /** The packets on their way, each held as the number that promise 20 answers for it. */
    private static final class Net {
        private final int[] codes = new int[NET_LIMIT];
        private int size;
        private int sent;
        private int lost;

        private static int codeOf(int kind, Link link, int number) {
            return kind + 2 * link.worker + 8 * link.shard + 32 * number;
        }

        private static int kindOf(int code) {
            return code & 1;
        }

        private static int workerOf(int code) {
            return (code >> 1) & 3;
        }

        private static int shardOf(int code) {
            return (code >> 3) & 3;
        }

        private static int numberOf(int code) {
            return code >> 5;
        }

        private boolean holds(int i) {
            return i >= 0 && i < size;
        }

        private boolean isFull() {
            return size >= NET_LIMIT;
        }

        private void send(int code) {
            sent++;
            if (isFull()) {
                lost++;
            } else {
                codes[size] = code;
                size++;
            }
        }

        private void remove(int i) {
            size--;
            System.arraycopy(codes, i + 1, codes, i, size - i);
        }

        private void removeAllOf(int h) {
            int staying = 0;
            for (int i = 0; i < size; i++) {
                if (shardOf(codes[i]) != h) {
                    codes[staying] = codes[i];
                    staying++;
                }
            }
            size = staying;
        }
    }

    /** One worker's messages to one shard, and how far that shard has got with them. */
    private static final class Link {
        private static final int END = -1;
        // Only kept messages (24 at most) are ever looked up, so rows of 32 are used in a ring:
        // a power of two, for a mask then finds a slot for every number.
        private static final int SLOTS = 32;

        private final int worker;
        private final int shard;
        // The place of a push's key on the shard, or END.
        private final int[] places = new int[SLOTS];
        private final int[] pushed = new int[SLOTS];
        private final int[] sendings = new int[SLOTS];
        private final boolean[] taken = new boolean[SLOTS];
        private int made;
        // START, which is also the boundary in the shard's checkpoint.
        private int start;
        private int confirmed;
        private int turn;
        private int endsHandled;
        // The boundary that a checkpoint made now would have.
        private int boundary;

        private Link(int worker, int shard) {
            this.worker = worker;
            this.shard = shard;
        }

        private static int slotOf(int number) {
            return number & (SLOTS - 1);
        }

        private int keptNumber() {
            return made - start;
        }

        private int unconfirmedNumber() {
            return made - confirmed;
        }

        private int append(int place, int g) {
            int number = made;
            int slot = slotOf(number);
            places[slot] = place;
            pushed[slot] = g;
            taken[slot] = false;
            made++;
            return number;
        }

        private void noteSending(int number, int time) {
            sendings[slotOf(number)] = time;
        }

        private boolean isDueAgain(int time) {
            return confirmed < made && time - sendings[slotOf(confirmed)] >= RESEND_AFTER;
        }

        private boolean confirm(int number) {
            if (number <= confirmed) {
                return false;
            }
            confirmed = number;
            return true;
        }

        private boolean hasTaken(int number) {
            return number < turn || taken[slotOf(number)];
        }

        private void take(int number) {
            taken[slotOf(number)] = true;
            for (; turn < made && taken[slotOf(turn)]; turn++) {
                if (places[slotOf(turn)] == END) {
                    endsHandled++;
                }
            }
        }

        private int earlyNumber() {
            int early = 0;
            for (int number = turn; number < made; number++) {
                if (taken[slotOf(number)]) {
                    early++;
                }
            }
            return early;
        }

        /** The worker's contribution to the first clock that the shard has not applied. */
        private int contribution(int place) {
            int sum = 0;
            for (int n = boundary; n < turn && places[slotOf(n)] != END; n++) {
                if (places[slotOf(n)] == place) {
                    sum = bounded(sum + pushed[slotOf(n)]);
                }
            }
            return sum;
        }

        private void moveBoundaryBehindNextEnd() {
            boolean passed = false;
            for (; boundary < turn && !passed; boundary++) {
                passed = places[slotOf(boundary)] == END;
            }
        }

        private int keepFromBoundary() {
            int fewer = boundary - start;
            start = boundary;
            confirmed = Math.max(confirmed, boundary);
            return fewer;
        }

        private void goBackToStart(int endsBeforeStart) {
            turn = start;
            boundary = start;
            confirmed = start;
            endsHandled = endsBeforeStart;
            for (int slot = 0; slot < SLOTS; slot++) {
                taken[slot] = false;
            }
        }
    }

    /** A shard with its links by ascending worker, its parameters and its checkpoint. */
    private static final class Shard {
        private final int rule;
        private final Link[] links;
        private final int[] values = new int[KEYS_PER_SHARD];
        private final int[] memories = new int[KEYS_PER_SHARD];
        private final int[] savedValues = new int[KEYS_PER_SHARD];
        private final int[] savedMemories = new int[KEYS_PER_SHARD];
        private int clocksDone;
        private int savedClocksDone;
        private boolean up = true;

        private Shard(int shard, int workers, int rule) {
            this.rule = rule;
            this.links = new Link[workers];
            for (int w = 0; w < workers; w++) {
                this.links[w] = new Link(w, shard);
            }
        }

        private int earlyNumber() {
            int early = 0;
            for (Link link : links) {
                early += link.earlyNumber();
            }
            return early;
        }

        private int leastEndsHandled() {
            int least = links[0].endsHandled;
            for (Link link : links) {
                least = Math.min(least, link.endsHandled);
            }
            return least;
        }

        private void applyEndedClocks() {
            int ended = leastEndsHandled();
            for (; clocksDone < ended; clocksDone++) {
                for (int place = 0; place < KEYS_PER_SHARD; place++) {
                    applySum(place, sumOfContributions(place));
                }
                for (Link link : links) {
                    link.moveBoundaryBehindNextEnd();
                }
            }
        }

        private int sumOfContributions(int place) {
            int sum = 0;
            for (Link link : links) {
                sum = bounded(sum + link.contribution(place));
            }
            return sum;
        }

        private void applySum(int place, int sum) {
            switch (rule) {
                case 1:
                    memories[place] = memories[place] - memories[place] / 4 + sum;
                    values[place] -= memories[place] / 2;
                    break;
                case 2:
                    memories[place] += sum * sum;
                    values[place] -= 64 * sum / (1 + rootOf(memories[place]));
                    break;
                default:
                    values[place] -= sum;
                    break;
            }
        }

        /** The greatest number whose square is not more than the square given, found bit by bit. */
        private static int rootOf(int square) {
            int root = 0;
            for (int shift = 15; shift >= 0; shift--) {
                long tried = root + (1 << shift);
                if (tried * tried <= square) {
                    root = (int) tried;
                }
            }
            return root;
        }

        private int makeCheckpoint() {
            System.arraycopy(values, 0, savedValues, 0, KEYS_PER_SHARD);
            System.arraycopy(memories, 0, savedMemories, 0, KEYS_PER_SHARD);
            savedClocksDone = clocksDone;
            int fewer = 0;
            for (Link link : links) {
                fewer += link.keepFromBoundary();
            }
            return fewer;
        }

        private void goBackToCheckpoint() {
            System.arraycopy(savedValues, 0, values, 0, KEYS_PER_SHARD);
            System.arraycopy(savedMemories, 0, memories, 0, KEYS_PER_SHARD);
            clocksDone = savedClocksDone;
            for (Link link : links) {
                link.goBackToStart(savedClocksDone);
            }
            up = true;
        }
    }
}
