import java.util.function.Predicate;
import java.util.function.Supplier;
import java.util.function.ToIntFunction;

/**
 * Calls that must do nothing: the object reads like one that was made in the same way and never got
 * the call, and so does what was put in, once it is checked.
 */
final class Refused {
    private Refused() {
    }

    static void call(String what, int want, Supplier<DiagramMoves> start, ToIntFunction<DiagramMoves> call) {
        DiagramMoves tried = start.get();
        Due.is(what, want, call.applyAsInt(tried));
        isAsMade(what, start.get(), tried);
    }

    static void move(String what, Supplier<DiagramMoves> start, Predicate<DiagramMoves> move) {
        DiagramMoves tried = start.get();
        Due.is(what, false, move.test(tried));
        isAsMade(what, start.get(), tried);
    }

    private static void isAsMade(String what, DiagramMoves untried, DiagramMoves tried) {
        Due.text(what + ", then the diagram", Examples.all(untried), Examples.all(tried));
        Due.is(what + ", then many(6)", untried.many(6), tried.many(6));
        Due.is(what + ", then check(7)", untried.check(7), tried.check(7));
        Due.text(what + ", then what was put in", Examples.all(untried), Examples.all(tried));
    }
}
