import java.util.ArrayList;
import java.util.List;

/**
 * An object of the class as the tests use it, with the same calls. The document promises nothing behind the 512th
 * call to an object: ahead of a 513th one all that was done to it is done to a new object, which is asked from then on.
 */
final class Subject {
    private static final int MOST_CALLS = 512;

    private final List<Step> done = new ArrayList<>();
    private Lineorders x = new Lineorders();
    private int calls;

    /** A call that may change something. */
    private interface Step {
        int on(Lineorders x);
    }

    /** How many of the calls may have changed something: there may be fewer than 512. */
    int changes() {
        return done.size();
    }

    private Lineorders asked() {
        if (calls == MOST_CALLS) {
            renew();
        }
        calls++;
        return x;
    }

    private void renew() {
        if (done.size() >= MOST_CALLS) {
            throw new AssertionError("a test uses an object for more than 512 calls");
        }
        x = new Lineorders();
        for (Step step : done) {
            try {
                step.on(x);
            } catch (RuntimeException e) {
                // It was thrown the first time, too, and was looked at then.
            }
        }
        calls = done.size();
    }

    private int change(Step step) {
        Lineorders object = asked();
        done.add(step);
        return step.on(object);
    }

    int type(int sign) {
        return change(object -> object.type(sign));
    }

    int wipe() {
        return change(Lineorders::wipe);
    }

    int fault() {
        return asked().fault();
    }

    int patternFault() {
        return asked().patternFault();
    }

    int run() {
        return change(Lineorders::run);
    }

    int keep(int script) {
        return change(object -> object.keep(script));
    }

    int play(int script) {
        return change(object -> object.play(script));
    }

    int stream(int script) {
        return change(object -> object.stream(script));
    }

    int reason() {
        return asked().reason();
    }

    int scriptLength(int script) {
        return asked().scriptLength(script);
    }

    int scriptAt(int script, int place) {
        return asked().scriptAt(script, place);
    }

    int undo() {
        return change(Lineorders::undo);
    }

    int undoRun() {
        return change(Lineorders::undoRun);
    }

    int deeds() {
        return asked().deeds();
    }

    int lines() {
        return asked().lines();
    }

    int length(int line) {
        return asked().length(line);
    }

    int at(int line, int place) {
        return asked().at(line, place);
    }

    int id(int line) {
        return asked().id(line);
    }

    int lineOf(int id) {
        return asked().lineOf(id);
    }

    int present() {
        return asked().present();
    }

    int mark(int mark) {
        return asked().mark(mark);
    }

    int sample(int seed, int many) {
        return change(object -> object.sample(seed, many));
    }

    int held() {
        return asked().held();
    }

    int heldLength(int row) {
        return asked().heldLength(row);
    }

    int heldAt(int row, int place) {
        return asked().heldAt(row, place);
    }

    int outs() {
        return asked().outs();
    }

    int outLength(int row) {
        return asked().outLength(row);
    }

    int outAt(int row, int place) {
        return asked().outAt(row, place);
    }

    int clearOut() {
        return change(Lineorders::clearOut);
    }

    int fileRows(int file) {
        return asked().fileRows(file);
    }

    int fileLength(int file, int row) {
        return asked().fileLength(file, row);
    }

    int fileAt(int file, int row, int place) {
        return asked().fileAt(file, row, place);
    }

    int find(boolean back) {
        return asked().find(back);
    }

    int findStart(int line) {
        return asked().findStart(line);
    }

    int findEnd(int line) {
        return asked().findEnd(line);
    }

    int differ(int file) {
        return asked().differ(file);
    }

    int pairOf(int file, int line) {
        return asked().pairOf(file, line);
    }

    boolean isSound() {
        return asked().isSound();
    }
}
