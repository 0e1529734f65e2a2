import java.util.ArrayList;
import java.util.HashSet;
import java.util.List;
import java.util.Set;

/**
 * The document said again as slowly and literally as can be: messages are never forgotten, and
 * what a shard knows is worked out anew from the messages that it has taken at every question.
 */
final class Model {
    record Message(boolean end, int key, int g) { }

    record Packet(boolean ack, int w, int h, int number) {
        int code() {
            return (ack ? 1 : 0) + 2 * w + 8 * h + 32 * number;
        }
    }

    private static final class Line {
        final List<Message> messages = new ArrayList<>();
        final List<Integer> sendings = new ArrayList<>();
        final Set<Integer> taken = new HashSet<>();
        int start;
        int confirmed;
        int savedBoundary;

        int turn() {
            int turn = 0;
            while (taken.contains(turn)) {
                turn++;
            }
            return turn;
        }

        int endsHandled() {
            int ends = 0;
            for (Message m : messages.subList(0, turn())) {
                ends += m.end() ? 1 : 0;
            }
            return ends;
        }

        int boundary(int clocks) {
            int ends = 0;
            int at = 0;
            while (ends < clocks) {
                ends += messages.get(at).end() ? 1 : 0;
                at++;
            }
            return at;
        }
    }

    final int workers;
    final int slack;
    final int rule;
    final int[] clocks;
    final boolean[] up = {true, true, true};
    final Line[][] lines;
    final List<Packet> net = new ArrayList<>();
    final int[] counts = new int[6];
    int time;

    Model(int workers, int slack, int rule) {
        this.workers = workers < 1 || workers > 4 ? 2 : workers;
        this.slack = slack < 0 || slack > 3 ? 0 : slack;
        this.rule = rule < 0 || rule > 2 ? 0 : rule;
        clocks = new int[this.workers];
        lines = new Line[this.workers][3];
        for (Line[] row : lines) {
            for (int h = 0; h < 3; h++) {
                row[h] = new Line();
            }
        }
    }

    boolean isWorker(int w) {
        return 0 <= w && w < workers;
    }

    static boolean isShard(int h) {
        return 0 <= h && h < 3;
    }

    static boolean isKey(int k) {
        return 0 <= k && k < 6;
    }

    boolean held(int w) {
        int least = Integer.MAX_VALUE;
        for (int c : clocks) {
            least = Math.min(least, c);
        }
        return clocks[w] > least + slack;
    }

    void send(Packet p) {
        counts[0]++;
        if (net.size() == 24) {
            counts[1]++;
        } else {
            net.add(p);
        }
    }

    void make(int w, int h, Message m) {
        Line line = lines[w][h];
        line.messages.add(m);
        line.sendings.add(time);
        send(new Packet(false, w, h, line.messages.size() - 1));
    }

    boolean add(int w, int k, int g) {
        if (!isWorker(w) || !isKey(k) || g < -99 || g > 99 || held(w) || kept(w, k % 3) >= 20) {
            return false;
        }
        make(w, k % 3, new Message(false, k, g));
        return true;
    }

    boolean advance(int w) {
        if (!isWorker(w) || held(w)) {
            return false;
        }
        for (int h = 0; h < 3; h++) {
            if (kept(w, h) == 24) {
                return false;
            }
        }
        for (int h = 0; h < 3; h++) {
            make(w, h, new Message(true, -1, 0));
        }
        clocks[w]++;
        return true;
    }

    boolean ready(int w, int k) {
        return isWorker(w) && isKey(k) && up[k % 3] && done(k % 3) >= clocks[w] - slack;
    }

    int pull(int w, int k) {
        return ready(w, k) ? value(k) : 0;
    }

    int clock(int w) {
        return isWorker(w) ? clocks[w] : -1;
    }

    int deliver(int i) {
        if (i < 0 || i >= net.size()) {
            return -1;
        }
        Packet p = net.remove(i);
        Line line = lines[p.w()][p.h()];
        if (p.ack()) {
            if (p.number() > line.confirmed) {
                line.confirmed = p.number();
                return 4;
            }
            return 5;
        }
        if (!up[p.h()]) {
            return 3;
        }
        boolean isNew = line.taken.add(p.number());
        counts[3] += isNew ? 0 : 1;
        send(new Packet(true, p.w(), p.h(), line.turn()));
        return isNew ? 1 : 2;
    }

    boolean drop(int i) {
        if (i < 0 || i >= net.size()) {
            return false;
        }
        net.remove(i);
        return true;
    }

    boolean copy(int i) {
        if (i < 0 || i >= net.size() || net.size() == 24) {
            return false;
        }
        send(net.get(i));
        return true;
    }

    int tick() {
        time++;
        int again = 0;
        for (int w = 0; w < workers; w++) {
            for (int h = 0; h < 3; h++) {
                Line line = lines[w][h];
                int first = line.confirmed;
                if (first < line.messages.size() && line.sendings.get(first) + 3 <= time) {
                    line.sendings.set(first, time);
                    send(new Packet(false, w, h, first));
                    again++;
                }
            }
        }
        counts[2] += again;
        return again;
    }

    int run(int n) {
        if (n < 1 || n > 20) {
            return -1;
        }
        int delivered = 0;
        for (int step = 0; step < n; step++) {
            if (net.isEmpty()) {
                tick();
            } else {
                deliver(0);
                delivered++;
            }
        }
        return delivered;
    }

    boolean kill(int h) {
        if (!isShard(h) || !up[h]) {
            return false;
        }
        up[h] = false;
        net.removeIf(p -> p.h() == h);
        for (int w = 0; w < workers; w++) {
            lines[w][h].taken.clear();
        }
        return true;
    }

    boolean recover(int h) {
        if (!isShard(h) || up[h]) {
            return false;
        }
        up[h] = true;
        for (int w = 0; w < workers; w++) {
            Line line = lines[w][h];
            for (int number = 0; number < line.savedBoundary; number++) {
                line.taken.add(number);
            }
            line.confirmed = line.savedBoundary;
        }
        counts[5]++;
        return true;
    }

    int checkpoint(int h) {
        int clocksDone = done(h);
        if (clocksDone < 0) {
            return -1;
        }
        int fewer = 0;
        for (int w = 0; w < workers; w++) {
            Line line = lines[w][h];
            line.savedBoundary = line.boundary(clocksDone);
            fewer += line.savedBoundary - line.start;
            line.start = line.savedBoundary;
            if (line.confirmed < line.savedBoundary) {
                line.confirmed = line.savedBoundary;
            }
        }
        counts[4]++;
        return fewer;
    }

    int done(int h) {
        if (!isShard(h) || !up[h]) {
            return -1;
        }
        int least = Integer.MAX_VALUE;
        for (int w = 0; w < workers; w++) {
            least = Math.min(least, lines[w][h].endsHandled());
        }
        return least;
    }

    int early(int h) {
        if (!isShard(h) || !up[h]) {
            return -1;
        }
        int early = 0;
        for (int w = 0; w < workers; w++) {
            early += lines[w][h].taken.size() - lines[w][h].turn();
        }
        return early;
    }

    int kept(int w, int h) {
        return isWorker(w) && isShard(h) ? lines[w][h].messages.size() - lines[w][h].start : -1;
    }

    int unconfirmed(int w, int h) {
        return isWorker(w) && isShard(h) ? lines[w][h].messages.size() - lines[w][h].confirmed : -1;
    }

    int packets() {
        return net.size();
    }

    int packet(int i) {
        return i < 0 || i >= net.size() ? -1 : net.get(i).code();
    }

    int count(int kind) {
        return kind < 0 || kind > 5 ? -1 : counts[kind];
    }

    boolean hasMadeCheckpoint(int h) {
        int messages = 0;
        for (int w = 0; w < workers; w++) {
            messages += lines[w][h].savedBoundary;
        }
        return messages > 0;
    }

    /** Whether packet i is of a message with more younger ones on its link than can be kept. */
    boolean isFromLongAgo(int i) {
        if (i < 0 || i >= net.size()) {
            return false;
        }
        Packet p = net.get(i);
        return !p.ack() && p.number() + 32 < lines[p.w()][p.h()].messages.size();
    }

    /** All clocks that the shard has done, applied from the beginning on. */
    private int value(int k) {
        int value = 0;
        int memory = 0;
        for (int c = 0; c < done(k % 3); c++) {
            int g = sum(k, c);
            if (rule == 0) {
                value = value - g;
            } else if (rule == 1) {
                memory = memory - memory / 4 + g;
                value = value - memory / 2;
            } else {
                memory = memory + g * g;
                int r = 0;
                while ((r + 1) * (r + 1) <= memory) {
                    r++;
                }
                value = value - 64 * g / (1 + r);
            }
        }
        return value;
    }

    private int sum(int k, int c) {
        int sum = 0;
        for (int w = 0; w < workers; w++) {
            sum = clamp(sum + contribution(w, k, c));
        }
        return sum;
    }

    private int contribution(int w, int k, int c) {
        int ends = 0;
        int sum = 0;
        for (Message m : lines[w][k % 3].messages) {
            if (m.end()) {
                ends++;
            } else if (ends == c && m.key() == k) {
                sum = clamp(sum + m.g());
            }
        }
        return sum;
    }

    private static int clamp(int n) {
        return Math.max(-99, Math.min(99, n));
    }
}
