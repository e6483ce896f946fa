import java.util.function.Consumer;
import java.util.function.ToLongFunction;

/**
 * A state that can be reached anew at will: a new object and the calls that lead there.
 * So each question is put to an object of its own, and none of them sees more than the document's 512 calls.
 */
final class Scene {
    private final int drift;
    private final Consumer<LeaseBoard> calls;

    Scene(int drift, Consumer<LeaseBoard> calls) {
        this.drift = drift;
        this.calls = calls;
    }

    LeaseBoard board() {
        LeaseBoard x = new LeaseBoard(drift);
        calls.accept(x);
        return x;
    }

    Scene then(Consumer<LeaseBoard> more) {
        return new Scene(drift, calls.andThen(more));
    }

    /** The call answers this; what it changes is not looked at. */
    void answers(String call, long answer, ToLongFunction<LeaseBoard> it) {
        Check.due(call, it.applyAsLong(board()), answer);
    }

    /** The call is not refused: it answers a number. */
    void takes(String call, ToLongFunction<LeaseBoard> it) {
        Check.due(call + " is taken", it.applyAsLong(board()) >= 0);
    }

    /** The call answers this, and all is as it was before it. */
    void refuses(String call, long answer, ToLongFunction<LeaseBoard> it) {
        answers(call, answer, it);
        Picture.alike(call, this, then(x -> it.applyAsLong(x)));
    }
}
