import java.util.ArrayList;
import java.util.List;
import java.util.function.Consumer;
import java.util.function.Supplier;

/**
 * Two objects that are made and used alike but for one thing. All that can be seen of the two must
 * be the same, at once and after each of some ways of going on, which bring to light what no call
 * shows: time, sendings, checkpoints.
 */
final class Twins {
    private static final List<Consumer<GradientShards>> WAYS_ON = List.of(
        x -> { },
        x -> Play.tick(x, 1),
        x -> Play.tick(x, 2),
        x -> Play.tick(x, 3),
        x -> deliverLatestFirst(x),
        x -> settleAndEnd(x),
        x -> goBack(x),
        x -> {
            goBack(x);
            settleAndEnd(x);
        },
        x -> {
            checkpointAll(x);
            goBack(x);
        });

    private final Due due;

    Twins(Due due) {
        this.due = due;
    }

    void areAlike(String name, Supplier<GradientShards> make, Consumer<GradientShards> one,
            Consumer<GradientShards> other) {
        for (int way = 0; way < WAYS_ON.size(); way++) {
            GradientShards x = make.get();
            GradientShards y = make.get();
            one.accept(x);
            other.accept(y);
            WAYS_ON.get(way).accept(x);
            WAYS_ON.get(way).accept(y);
            compare(name + ", way on " + way, sight(x), sight(y));
        }
    }

    /** Tells no more than the first difference: the others mostly follow from it. */
    private void compare(String name, List<Integer> got, List<Integer> want) {
        int same = 0;
        while (same < Math.min(got.size(), want.size()) && got.get(same).equals(want.get(same))) {
            same++;
        }
        due.is(name + ", rows of sight that are the same", same, Math.max(got.size(), want.size()));
    }

    /** All that can be asked of an object. */
    private static List<Integer> sight(GradientShards x) {
        List<Integer> seen = new ArrayList<>();
        for (int kind = 0; kind < 6; kind++) {
            seen.add(x.count(kind));
        }
        for (int h = 0; h < 3; h++) {
            seen.add(x.done(h));
            seen.add(x.early(h));
        }
        for (int w = 0; w < 4; w++) {
            seeWorker(seen, x, w);
        }
        seen.addAll(Play.packets(x));
        return seen;
    }

    private static void seeWorker(List<Integer> seen, GradientShards x, int w) {
        seen.add(x.clock(w));
        for (int h = 0; h < 3; h++) {
            seen.add(x.kept(w, h));
            seen.add(x.unconfirmed(w, h));
        }
        for (int k = 0; k < 6; k++) {
            seen.add(x.ready(w, k) ? 1 : 0);
            seen.add(x.pull(w, k));
        }
    }

    private static void deliverLatestFirst(GradientShards x) {
        for (int i = x.packets() - 1; i >= 0; i--) {
            x.deliver(i);
        }
    }

    private static void settleAndEnd(GradientShards x) {
        for (int w = 0; w < 4; w++) {
            x.advance(w);
        }
        for (int i = 0; i < 6; i++) {
            x.run(20);
        }
    }

    private static void goBack(GradientShards x) {
        for (int h = 0; h < 3; h++) {
            x.kill(h);
            x.recover(h);
        }
    }

    private static void checkpointAll(GradientShards x) {
        for (int h = 0; h < 3; h++) {
            x.checkpoint(h);
        }
    }
}
