import java.util.List;

/** Tests of single sentences: each names its promise and the document's words that it is for. */
abstract class Edges {
    interface Argument {
        long on(Layerbook book, int argument);
    }

    private static final Class<? extends RuntimeException> ARGUMENT = IllegalArgumentException.class;
    private static final Class<? extends RuntimeException> INDEX = IndexOutOfBoundsException.class;
    private static final Class<? extends RuntimeException> STATE = IllegalStateException.class;

    private final Check check;
    private final Document document;
    private String about = "";

    Edges(Check check, Document document) {
        this.check = check;
        this.document = document;
    }

    abstract void run();

    /** Promise 0 stands for what the document says ahead of its promises. */
    final void about(int promise, String words) {
        about = "promise " + promise + ", \"" + words + "\": ";
        check.due(about + "it is in the document", Check.bit(document.says(promise, words)), 1);
    }

    final void due(String what, long got, long want) {
        check.due(about + what, got, want);
    }

    /** The call is the only one on a book of its own. */
    final void due(String what, Scene scene, Scene.Call call, long want) {
        check.due(about + what + ", " + scene, () -> call.on(scene.make()), want);
    }

    final void refusedArgument(String what, Scene scene, Scene.Call call) {
        refused(ARGUMENT, what, scene, call);
    }

    final void refusedIndex(String what, Scene scene, Scene.Call call) {
        refused(INDEX, what, scene, call);
    }

    final void refusedState(String what, Scene scene, Scene.Call call) {
        refused(STATE, what, scene, call);
    }

    private void refused(Class<? extends RuntimeException> want, String what, Scene scene, Scene.Call call) {
        String where = about + what + ", " + scene;
        check.dueThrow(where, want, () -> call.on(scene.make()));
        String changed = scene.changedBy(call);
        check.due(where + ", shows in later calls: " + changed, Check.bit(changed != null), 0);
    }

    /** The first and the last value that are taken, and on both sides the first and the last that are not. */
    final void range(int promise, String words, int least, int most, Scene scene, Argument call, long atLeast, long atMost) {
        about(promise, words);
        due("with " + least, scene, b -> call.on(b, least), atLeast);
        due("with " + most, scene, b -> call.on(b, most), atMost);
        for (int wrong : List.of(least - 1, most + 1, Integer.MIN_VALUE, Integer.MAX_VALUE)) {
            for (Scene any : Scene.ALL) {
                refusedArgument("with " + wrong, any, b -> call.on(b, wrong));
            }
        }
    }

    /** Numbers ahead of the first movement and behind the last one, however many there are. */
    final void noSuchMovement(int promise, Argument call) {
        about(promise, "there is no such movement");
        for (Scene scene : Scene.ALL) {
            int next = scene.movements();
            for (int wrong : List.of(-1, next, next + 1, 64, Integer.MIN_VALUE, Integer.MAX_VALUE)) {
                refusedIndex("number " + wrong, scene, b -> call.on(b, wrong));
            }
        }
    }
}
