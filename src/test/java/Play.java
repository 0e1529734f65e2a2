import java.util.ArrayList;
import java.util.List;

/** Ways of using an object that several tests share. */
final class Play {
    static final int[] NO_SHARDS = {-1, 3, Integer.MIN_VALUE, Integer.MAX_VALUE};
    static final int[] NO_KEYS = {-1, 6, Integer.MIN_VALUE, Integer.MAX_VALUE};

    private Play() { }

    /** Those numbers just outside of the workers and far outside of them. */
    static int[] noWorkers(int workers) {
        return new int[] {-1, workers, Integer.MIN_VALUE, Integer.MAX_VALUE};
    }

    /** Those numbers just outside of the packets in the net and far outside of them. */
    static int[] noPackets(int packets) {
        return new int[] {-1, packets, 24, Integer.MIN_VALUE, Integer.MAX_VALUE};
    }

    /** Delivers packet 0 until none is there. */
    static void settle(GradientShards x) {
        for (int i = 0; i < 200 && x.packets() > 0; i++) {
            x.deliver(0);
        }
    }

    static void dropAll(GradientShards x) {
        for (int i = 0; i < 24 && x.packets() > 0; i++) {
            x.drop(0);
        }
    }

    static void add(GradientShards x, int k, int times) {
        for (int i = 0; i < times; i++) {
            x.add(0, k, 1);
        }
    }

    static void advance(GradientShards x, int w, int times) {
        for (int i = 0; i < times; i++) {
            x.advance(w);
        }
    }

    static void tick(GradientShards x, int times) {
        for (int i = 0; i < times; i++) {
            x.tick();
        }
    }

    /** Copies packet 0 until so many packets are there. */
    static void fill(GradientShards x, int packets) {
        for (int i = x.packets(); i < packets; i++) {
            x.copy(0);
        }
    }

    /** What deliver answers for the oldest packet that packet(i) answers with this code; 0 if none is there. */
    static int deliverCode(GradientShards x, int code) {
        int i = packets(x).indexOf(code);
        return i < 0 ? 0 : x.deliver(i);
    }

    /** What packet(i) answers for each packet that is there. */
    static List<Integer> packets(GradientShards x) {
        List<Integer> codes = new ArrayList<>();
        int packets = x.packets();
        for (int i = 0; i < packets; i++) {
            codes.add(x.packet(i));
        }
        return codes;
    }

    /** What packet(i) answers for the newest packet; -1 if there is none. */
    static int newest(GradientShards x) {
        return x.packet(x.packets() - 1);
    }

    static int data(int w, int h, int number) {
        return 2 * w + 8 * h + 32 * number;
    }

    static int ack(int w, int h, int number) {
        return 1 + data(w, h, number);
    }

    /**
     * Three workers at clock 1, slack 1, rule 1: shard 0 has a checkpoint, an early message and
     * messages that are not confirmed, shard 1 has done a clock since the beginning, shard 2 is
     * down with a message on its way to it; data, a copy and an ack are in the net.
     */
    static GradientShards busy() {
        GradientShards x = new GradientShards(3, 1, 1);
        for (int w = 0; w < 3; w++) {
            x.add(w, 0, 20 + w);
            x.add(w, 4, -7);
            x.add(w, 5, 40);
            x.advance(w);
        }
        settle(x);
        x.checkpoint(0);
        x.checkpoint(2);
        x.add(0, 0, 9);
        x.tick();
        x.add(0, 3, -30);
        x.add(1, 3, 17);
        x.add(2, 1, 50);
        x.deliver(1);
        x.copy(0);
        x.kill(2);
        x.tick();
        x.add(1, 2, 5);
        return x;
    }
}
