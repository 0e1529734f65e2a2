import java.util.function.Predicate;
import java.util.function.Supplier;
import java.util.function.ToIntFunction;

/** That a call is refused and changes nothing: its object stays alike to one that never got it. */
final class Refusal {
    private final Due due;
    private final Twins twins;

    Refusal(Due due) {
        this.due = due;
        this.twins = new Twins(due);
    }

    void isFalse(String name, Supplier<GradientShards> make, Predicate<GradientShards> call) {
        isAnswered(name, make, x -> call.test(x) ? 1 : 0, 0);
    }

    void isMinusOne(String name, Supplier<GradientShards> make, ToIntFunction<GradientShards> call) {
        isAnswered(name, make, call, -1);
    }

    /** For calls that only ask, whatever they answer. */
    void isAnswered(String name, Supplier<GradientShards> make, ToIntFunction<GradientShards> call, int answer) {
        twins.areAlike(name + " changes nothing", make, x -> due.is(name, call.applyAsInt(x), answer), x -> { });
    }
}
