import java.util.Random;

/** Makes calls drawn from a fixed seed, all of them such as change something, and tells each one. */
final class Caller {
    /**
     * What was called, with what, and what it answered (a boolean counts 1 or 0). The second number
     * of deliver is what packet(i) answered before.
     */
    record Call(String name, int first, int second, int answer) {
        boolean is(String other) {
            return name.equals(other);
        }
    }

    // How often each is drawn: of a shard that goes down often, not much is learnt.
    private static final String[] NAMES = {
        "add", "add", "add", "add", "add", "advance", "advance", "advance", "deliver", "deliver",
        "deliver", "deliver", "deliver", "deliver", "deliver", "deliver", "drop", "copy", "tick",
        "tick", "kill", "recover", "recover", "checkpoint", "checkpoint",
    };

    private final Random random;
    private final int workers;
    private final GradientShards x;

    Caller(int seed, int workers, GradientShards x) {
        this.random = new Random(seed);
        this.workers = workers;
        this.x = x;
    }

    Call next() {
        return next(NAMES[random.nextInt(NAMES.length)]);
    }

    Call next(String name) {
        int w = random.nextInt(workers);
        int h = random.nextInt(3);
        int k = random.nextInt(6);
        int i = random.nextInt(Math.max(1, x.packets()));
        switch (name) {
            case "add": return new Call(name, w, k, x.add(w, k, random.nextInt(199) - 99) ? 1 : 0);
            case "advance": return new Call(name, w, 0, x.advance(w) ? 1 : 0);
            case "deliver": return new Call(name, i, x.packet(i), x.deliver(i));
            case "drop": return new Call(name, i, 0, x.drop(i) ? 1 : 0);
            case "copy": return new Call(name, i, 0, x.copy(i) ? 1 : 0);
            case "kill": return new Call(name, h, 0, x.kill(h) ? 1 : 0);
            case "recover": return new Call(name, h, 0, x.recover(h) ? 1 : 0);
            case "checkpoint": return new Call(name, h, 0, x.checkpoint(h));
            default: return new Call("tick", 0, 0, x.tick());
        }
    }
}
