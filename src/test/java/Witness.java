import java.util.function.Supplier;

/**
 * Tells all that can be asked of an object, to see whether a refused call has changed anything. As
 * some questions change the object, there are several views, each for an object of its own; none of
 * them takes more than 200 calls, as an object is promised to last for 512.
 */
final class Witness {
    static final int VIEWS = 8;

    private final AnimationController x;
    private final StringBuilder told = new StringBuilder();

    private Witness(AnimationController x) {
        this.x = x;
    }

    static String view(int view, AnimationController x) {
        Witness witness = new Witness(x);
        switch (view) {
            case 0: witness.present(); break;
            case 1: witness.events(); break;
            case 2: witness.states(); break;
            case 3: witness.ways(); break;
            case 4: witness.future(); break;
            case 5: witness.images(); break;
            case 6: witness.parts(); break;
            default: witness.room();
        }
        return witness.told.toString();
    }

    private void tell(Supplier<Object> question) {
        Object answer;
        try {
            answer = question.get();
        } catch (RuntimeException e) {
            answer = Script.toldOf(e);
        }
        told.append(answer).append(' ');
    }

    private void present() {
        for (int i = 0; i < 8; i++) {
            int what = i;
            tell(() -> x.count(what));
        }
        for (int i = 0; i < x.count(0); i++) {
            int parameter = i;
            tell(() -> x.value(parameter));
        }
        machine();
        for (int i = 0; i < x.count(4); i++) {
            int transition = i;
            tell(() -> x.blocked(transition));
        }
        for (int i = 0; i < x.poseSize(); i++) {
            int entry = i;
            tell(() -> x.poseClip(entry) + "/" + x.poseTime(entry) + "/" + x.poseWeight(entry));
        }
        tell(x::fault);
        tell(() -> x.setThreshold(1));
    }

    private void machine() {
        tell(x::state);
        tell(x::target);
        tell(x::transition);
        tell(x::elapsed);
        tell(x::isFrozen);
        tell(() -> x.progress(false));
        tell(() -> x.progress(true));
        tell(x::poseSize);
        tell(x::fired);
        tell(() -> x.count(5));
    }

    private void events() {
        tell(x::fired);
        for (int i = 0; i < x.count(6); i++) {
            int event = i;
            tell(() -> x.event(event, 0) + "/" + x.event(event, 1) + "/" + x.event(event, 2) + "/" + x.event(event, 3));
        }
    }

    private void states() {
        for (int i = 0; i < x.count(3); i++) {
            int state = i;
            tell(() -> x.stateLength(state));
            tell(() -> x.ticksTo(state));
            for (int c = 0; c < x.count(1); c++) {
                int clip = c;
                tell(() -> x.partWeight(state, clip));
            }
        }
        tell(() -> x.foretell(1));
        tell(() -> x.foretell(7));
        tell(() -> x.foretell(100));
    }

    private void ways() {
        for (int i = 0; i < x.count(3); i++) {
            for (int j = 0; j < x.count(3); j++) {
                int from = i, to = j;
                tell(() -> x.steps(from, to));
            }
        }
    }

    /** What the machine does on, with all that can be switched on. */
    private void future() {
        for (int round = 0; round < 6; round++) {
            tell(() -> x.tick(1));
            machine();
            for (int i = 0; i < x.count(0); i++) {
                int parameter = i;
                tell(() -> x.set(parameter, 1));
            }
        }
        tell(() -> x.tick(100));
        machine();
    }

    private void images() {
        for (int i = 0; i < 2; i++) {
            int slot = i;
            tell(() -> x.restore(slot));
            machine();
            for (int p = 0; p < x.count(0); p++) {
                int parameter = p;
                tell(() -> x.value(parameter));
            }
        }
    }

    /** The events of the clips, the children of the lines, and what belongs to the transitions. */
    private void parts() {
        for (int i = 0; i < x.count(1); i++) {
            int clip = i;
            tell(() -> x.addEvent(clip, 0, 0));
        }
        for (int i = 0; i < x.count(2); i++) {
            int node = i;
            tell(() -> x.addChild(node, 0, 77));
        }
        tell(x::load);
        for (int i = 0; i < x.count(4); i++) {
            int transition = i;
            tell(() -> x.addCondition(transition, 0, 2, 1));
            tell(() -> x.setInterruption(transition, 0, false));
            tell(() -> x.setTiming(transition, -1, 0));
        }
    }

    private void room() {
        tell(() -> x.addParameter(1));
        tell(() -> x.addClip(1));
        tell(() -> x.addClipNode(0));
        tell(() -> x.addState(0, 1, true, 0));
        tell(() -> x.addTransition(0, 0, 0));
        tell(() -> x.type(32));
        tell(x::clearText);
        tell(x::reset);
        machine();
    }
}
