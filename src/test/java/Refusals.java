import java.util.List;
import java.util.function.Supplier;
import java.util.function.ToIntFunction;

/** Calls that return an error: which one it is, and that they change nothing. */
final class Refusals {
    private static final int STATES = 4;

    private Refusals() {
    }

    /** A call with one argument that is to be looked at. */
    interface Call {
        int on(WireDigs x, int argument);
    }

    /** Made on a scene of its own each time, so that no object has more than 512 calls. */
    static void due(Supplier<WireDigs> scene, String name, ToIntFunction<WireDigs> call, int error) {
        Check.due(name, call.applyAsInt(scene.get()), error);
        for (int undos = 0; undos <= STATES; undos++) {
            WireDigs untouched = scene.get();
            WireDigs touched = scene.get();
            call.applyAsInt(touched);
            boolean same = after(undos, untouched).equals(after(undos, touched));
            Check.dueThat(name + " changed nothing, as seen after " + undos + " undos: this", same);
        }
    }

    private static List<Integer> after(int undos, WireDigs x) {
        for (int i = 0; i < undos; i++) {
            x.undo();
        }
        return Snapshot.of(x);
    }

    /** The least and the most are in range; what is next to them, and the ends of int, are not. */
    static void range(Supplier<WireDigs> scene, String name, Call call, int least, int most) {
        for (int argument : new int[] {least, most}) {
            Check.dueThat(name + " takes " + argument, call.on(scene.get(), argument) != Scenes.INVALID);
        }
        for (int argument : new int[] {Integer.MIN_VALUE, least - 1, most + 1, Integer.MAX_VALUE}) {
            due(scene, name + " with " + argument, x -> call.on(x, argument), Scenes.INVALID);
        }
    }

    /** For an index, which has a least value alone. */
    static void rangeFrom(Supplier<WireDigs> scene, String name, Call call, int least) {
        for (int argument : new int[] {least, Integer.MAX_VALUE}) {
            Check.dueThat(name + " takes " + argument, call.on(scene.get(), argument) != Scenes.INVALID);
        }
        for (int argument : new int[] {Integer.MIN_VALUE, least - 1}) {
            due(scene, name + " with " + argument, x -> call.on(x, argument), Scenes.INVALID);
        }
    }
}
