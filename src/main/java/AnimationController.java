import java.util.ArrayList;

/**
 * An animation state machine: states play blend trees of clips, transitions cross-fade between
 * them. The class itself checks the arguments of the calls; the work is done by the classes inside.
 */
public final class AnimationController {
    public static final int NONE = -1, ANY = -1, WHOLE = 1000000;

    private static final int NUMBER = 0, SWITCH = 1, TRIGGER = 2;
    private static final int GREATER = 0, LESS = 1, EQUAL = 2, UNEQUAL = 3;
    private static final int SOURCE_ONLY = 1, TARGET_ONLY = 2, SOURCE_FIRST = 3, TARGET_FIRST = 4;

    private static final int MAX_PARAMETERS = 8, MAX_CLIPS = 12, MAX_EVENTS = 5;
    private static final int MAX_NODES = 20, MAX_CHILDREN = 5, MAX_DEPTH = 4;
    private static final int MAX_STATES = 10, MAX_TRANSITIONS = 24, MAX_CONDITIONS = 3;
    private static final int MAX_TEXT = 150, MAX_KEPT_EVENTS = 30, IMAGES = 2;

    private static final int MAX_LENGTH = 500, MAX_ID = 99, MAX_NUMBER = 100;
    private static final int MAX_SPEED = 400, MAX_GROUP = 3;
    private static final int MAX_DURATION = 60, MAX_EXIT = 300, MAX_START = 99, MAX_MODE = 4;
    private static final int MAX_BYTE = 255, MAX_TICKS = 100, PERCENT = 100;
    private static final int HUNDREDTH = WHOLE / 100;

    private static final int TAKEN_IN_A_TICK = 4, MAX_INTERRUPTIONS = 2;

    /**
     * A line blends at most two children, so three levels of lines show at most 8 clips: two tracks
     * show 16, and each of the two interruptions adds 8.
     */
    private static final int MAX_POSE = 32;

    private final Model model;
    private final TransitionText text;
    private final Machine machine;
    private final Machine foretold;
    private final Machine[] images;
    private final boolean[] isKept;
    private final int[] distances;

    public AnimationController() {
        model = new Model();
        text = new TransitionText(model);
        machine = new Machine(model);
        foretold = new Machine(model);
        images = new Machine[IMAGES];
        for (int i = 0; i < images.length; i++) {
            images[i] = new Machine(model);
        }
        isKept = new boolean[IMAGES];
        distances = new int[MAX_STATES];
    }

    // ---- parameters, clips

    public int addParameter(int kind) throws IllegalArgumentException, IllegalStateException {
        if (kind < NUMBER || kind > TRIGGER) {
            throw new IllegalArgumentException("kind is out of range");
        }
        if (model.parameters >= model.kinds.length) {
            throw new IllegalStateException("there are 8 parameters");
        }
        model.kinds[model.parameters] = kind;
        model.parameters++;
        return model.parameters - 1;
    }

    public int set(int parameter, int value) throws IndexOutOfBoundsException, IllegalArgumentException {
        requireParameter(parameter);
        if (!model.isValue(parameter, value)) {
            throw new IllegalArgumentException("value is out of range");
        }
        int previous = machine.valueOf(parameter);
        machine.setValue(parameter, value);
        return previous;
    }

    public int value(int parameter) throws IndexOutOfBoundsException {
        requireParameter(parameter);
        return machine.valueOf(parameter);
    }

    public int addClip(int length) throws IllegalArgumentException, IllegalStateException {
        if (length < 1 || length > MAX_LENGTH) {
            throw new IllegalArgumentException("length is out of range");
        }
        if (model.clips.size() >= MAX_CLIPS) {
            throw new IllegalStateException("there are 12 clips");
        }
        model.clips.add(new Clip(model.clips.size(), length));
        return model.clips.size() - 1;
    }

    public int addEvent(int clip, int time, int id)
            throws IndexOutOfBoundsException, IllegalArgumentException, IllegalStateException {
        Clip changed = clipAt(clip);
        if (time < 0 || time >= changed.length || id < 0 || id > MAX_ID) {
            throw new IllegalArgumentException("time or id is out of range");
        }
        if (changed.events >= MAX_EVENTS) {
            throw new IllegalStateException("the clip has 5 events");
        }
        changed.insertEvent(time, id);
        return changed.events;
    }

    // ---- blend trees

    public int addClipNode(int clip) throws IndexOutOfBoundsException, IllegalStateException {
        Clip played = clipAt(clip);
        requireRoomForNode();
        model.nodes.add(new Node(played, NONE));
        return model.nodes.size() - 1;
    }

    public int addLine(int parameter) throws IndexOutOfBoundsException, IllegalStateException {
        requireParameter(parameter);
        if (model.kindOf(parameter) != NUMBER) {
            throw new IllegalStateException("the parameter is not a number");
        }
        requireRoomForNode();
        model.nodes.add(new Node(null, parameter));
        return model.nodes.size() - 1;
    }

    public int addChild(int line, int node, int position)
            throws IndexOutOfBoundsException, IllegalArgumentException, IllegalStateException {
        Node parent = nodeAt(line);
        Node child = nodeAt(node);
        if (!parent.isLine() || node >= line || position < -MAX_NUMBER || position > MAX_NUMBER) {
            throw new IllegalArgumentException("no line, no lower node, or position is out of range");
        }
        if (parent.children.size() >= MAX_CHILDREN || parent.hasPosition(position)) {
            throw new IllegalStateException("the line has no room for this child");
        }
        if (!child.isComplete() || model.greatestDepthWith(parent, child) > MAX_DEPTH) {
            throw new IllegalStateException("the child is not complete, or a node would be too deep");
        }
        parent.insertChild(child, position);
        return parent.children.size();
    }

    // ---- states, transitions

    public int addState(int motion, int speed, boolean loops, int group)
            throws IndexOutOfBoundsException, IllegalArgumentException, IllegalStateException {
        Node played = nodeAt(motion);
        if (speed < 1 || speed > MAX_SPEED || group < 0 || group > MAX_GROUP) {
            throw new IllegalArgumentException("speed or group is out of range");
        }
        if (!played.isComplete() || model.states.size() >= MAX_STATES) {
            throw new IllegalStateException("the node is not complete, or there are 10 states");
        }
        State added = new State(model.states.size(), played, speed, loops, group);
        model.states.add(added);
        if (model.states.size() == 1) {
            machine.beginIn(added);
        }
        return added.number;
    }

    public int addTransition(int from, int to, int duration)
            throws IndexOutOfBoundsException, IllegalArgumentException, IllegalStateException {
        State left = from == ANY ? null : stateAt(from);
        State reached = stateAt(to);
        if (duration < 0 || duration > MAX_DURATION) {
            throw new IllegalArgumentException("duration is out of range");
        }
        if (model.transitions.size() >= MAX_TRANSITIONS) {
            throw new IllegalStateException("there are 24 transitions");
        }
        Transition added = new Transition(model.transitions.size(), reached);
        added.begin(left, reached, duration);
        model.transitions.add(added);
        return added.number;
    }

    public int setTiming(int transition, int exit, int start)
            throws IndexOutOfBoundsException, IllegalArgumentException, IllegalStateException {
        Transition changed = transitionAt(transition);
        if (exit < NONE || exit > MAX_EXIT || start < 0 || start > MAX_START) {
            throw new IllegalArgumentException("exit or start is out of range");
        }
        if (exit != NONE && changed.from == null) {
            throw new IllegalStateException("a transition from any state has no exit");
        }
        int previous = changed.exit;
        changed.exit = exit;
        changed.start = start;
        return previous;
    }

    public int setInterruption(int transition, int mode, boolean ordered)
            throws IndexOutOfBoundsException, IllegalArgumentException {
        Transition changed = transitionAt(transition);
        if (mode < 0 || mode > MAX_MODE) {
            throw new IllegalArgumentException("mode is out of range");
        }
        int previous = changed.mode;
        changed.mode = mode;
        changed.ordered = ordered;
        return previous;
    }

    public int addCondition(int transition, int parameter, int operator, int value)
            throws IndexOutOfBoundsException, IllegalArgumentException, IllegalStateException {
        Transition changed = transitionAt(transition);
        requireParameter(parameter);
        if (!model.isCondition(parameter, operator, value)) {
            throw new IllegalArgumentException("operator or value is out of range");
        }
        if (changed.conditions >= MAX_CONDITIONS) {
            throw new IllegalStateException("the transition has 3 conditions");
        }
        changed.appendCondition(parameter, operator, value);
        return changed.conditions;
    }

    public int setThreshold(int percent) throws IllegalArgumentException {
        if (percent < 0 || percent > PERCENT) {
            throw new IllegalArgumentException("percent is out of range");
        }
        int previous = model.threshold;
        model.threshold = percent;
        return previous;
    }

    // ---- text

    public int type(int code) throws IllegalArgumentException, IllegalStateException {
        if (code < 0 || code > MAX_BYTE) {
            throw new IllegalArgumentException("code is out of range");
        }
        if (text.length >= text.bytes.length) {
            throw new IllegalStateException("the text has 150 bytes");
        }
        text.bytes[text.length] = code;
        text.length++;
        return text.length;
    }

    public int clearText() {
        int previous = text.length;
        text.length = 0;
        return previous;
    }

    public int fault() {
        return text.readAll(false);
    }

    public int load() throws IllegalStateException {
        if (text.readAll(false) != NONE) {
            throw new IllegalStateException("the text has a fault");
        }
        int before = model.transitions.size();
        text.readAll(true);
        text.length = 0;
        return model.transitions.size() - before;
    }

    // ---- running

    public int tick(int ticks) throws IllegalArgumentException, IllegalStateException {
        requireTicks(ticks);
        requireStates();
        int before = machine.log.total;
        for (int i = 0; i < ticks; i++) {
            machine.runTick();
        }
        return machine.log.total - before;
    }

    public int reset() {
        int previous = machine.ticks;
        machine.forget();
        machine.beginIn(model.states.isEmpty() ? model.standIn : model.states.get(0));
        return previous;
    }

    public int state() throws IllegalStateException {
        requireStates();
        return machine.source.state.number;
    }

    public int target() {
        return machine.current == null ? NONE : machine.target.state.number;
    }

    public int transition() {
        return machine.current == null ? NONE : machine.current.number;
    }

    public int elapsed() {
        return machine.current == null ? NONE : machine.elapsed;
    }

    public boolean isFrozen() {
        return machine.frozen;
    }

    public long progress(boolean target) throws IllegalStateException {
        requireStates();
        if (!target) {
            return machine.source.progressNow();
        }
        if (machine.current == null) {
            throw new IllegalStateException("the machine is idle");
        }
        return machine.target.progressNow();
    }

    public int stateLength(int state) throws IndexOutOfBoundsException {
        return machine.lengthOf(stateAt(state));
    }

    public int partWeight(int state, int clip) throws IndexOutOfBoundsException {
        State asked = stateAt(state);
        Clip part = clipAt(clip);
        machine.blend.fill(asked.motion, WHOLE, machine.values);
        return machine.blend.weightOf(part.number);
    }

    public int blocked(int transition) throws IndexOutOfBoundsException {
        Transition asked = transitionAt(transition);
        return machine.obstacleFrom(machine.originOf(asked), asked);
    }

    // ---- pose

    public int poseSize() {
        return presentPose().size;
    }

    public int poseClip(int entry) throws IndexOutOfBoundsException {
        Pose pose = presentPose();
        if (entry < 0 || entry >= pose.size || entry >= pose.clips.length) {
            throw new IndexOutOfBoundsException("no such entry");
        }
        return pose.clips[entry];
    }

    public int poseTime(int entry) throws IndexOutOfBoundsException {
        Pose pose = presentPose();
        if (entry < 0 || entry >= pose.size || entry >= pose.times.length) {
            throw new IndexOutOfBoundsException("no such entry");
        }
        return pose.times[entry];
    }

    public int poseWeight(int entry) throws IndexOutOfBoundsException {
        Pose pose = presentPose();
        if (entry < 0 || entry >= pose.size || entry >= pose.weights.length) {
            throw new IndexOutOfBoundsException("no such entry");
        }
        return pose.weights[entry];
    }

    // ---- events

    public int fired() {
        return machine.log.total;
    }

    public int event(int event, int what) throws IndexOutOfBoundsException, IllegalArgumentException {
        if (event < 0 || event >= machine.log.kept()) {
            throw new IndexOutOfBoundsException("no such event");
        }
        if (what < 0 || what >= EventLog.PROPERTIES) {
            throw new IllegalArgumentException("what is out of range");
        }
        return machine.log.propertyOf(event, what);
    }

    // ---- foretelling, structure

    public int foretell(int ticks) throws IllegalArgumentException, IllegalStateException {
        requireTicks(ticks);
        requireStates();
        foretold.copyFrom(machine);
        for (int i = 0; i < ticks; i++) {
            foretold.runTick();
        }
        return foretold.current == null ? foretold.source.state.number : foretold.target.state.number;
    }

    public int ticksTo(int state) throws IndexOutOfBoundsException {
        State awaited = stateAt(state);
        foretold.copyFrom(machine);
        for (int passed = 0; passed <= MAX_TICKS; passed++) {
            if (foretold.current == null && foretold.source.state == awaited) {
                return passed;
            }
            foretold.runTick();
        }
        return NONE;
    }

    public int steps(int from, int to) throws IndexOutOfBoundsException {
        State first = stateAt(from);
        State last = stateAt(to);
        for (int i = 0; i < distances.length; i++) {
            distances[i] = NONE;
        }
        setDistance(first, 0);
        for (int distance = 0; distance < MAX_STATES; distance++) {
            spreadFrom(distance);
        }
        return distanceOf(last);
    }

    // ---- images

    public int keep(int slot) throws IllegalArgumentException, IllegalStateException {
        requireSlot(slot);
        requireStates();
        images[slot].copyFrom(machine);
        isKept[slot] = true;
        return machine.ticks;
    }

    public int restore(int slot) throws IllegalArgumentException, IllegalStateException {
        requireSlot(slot);
        if (!isKept[slot]) {
            throw new IllegalStateException("nothing is kept in the slot");
        }
        machine.copyFrom(images[slot]);
        return machine.ticks;
    }

    public int count(int what) throws IllegalArgumentException {
        switch (what) {
            case 0: return model.parameters;
            case 1: return model.clips.size();
            case 2: return model.nodes.size();
            case 3: return model.states.size();
            case 4: return model.transitions.size();
            case 5: return machine.ticks;
            case 6: return machine.log.kept();
            case 7: return text.length;
            default: throw new IllegalArgumentException("what is out of range");
        }
    }

    // ---- what several calls need

    private void requireParameter(int parameter) {
        if (!model.hasParameter(parameter)) {
            throw new IndexOutOfBoundsException("no such parameter");
        }
    }

    private void requireRoomForNode() {
        if (model.nodes.size() >= MAX_NODES) {
            throw new IllegalStateException("there are 20 nodes");
        }
    }

    private void requireStates() {
        if (model.states.isEmpty()) {
            throw new IllegalStateException("there are no states");
        }
    }

    private void requireTicks(int ticks) {
        if (ticks < 1 || ticks > MAX_TICKS) {
            throw new IllegalArgumentException("ticks is out of range");
        }
    }

    private void requireSlot(int slot) {
        if (slot < 0 || slot >= IMAGES) {
            throw new IllegalArgumentException("slot is out of range");
        }
    }

    private Clip clipAt(int clip) {
        if (clip < 0 || clip >= model.clips.size()) {
            throw new IndexOutOfBoundsException("no such clip");
        }
        return model.clips.get(clip);
    }

    private Node nodeAt(int node) {
        if (node < 0 || node >= model.nodes.size()) {
            throw new IndexOutOfBoundsException("no such node");
        }
        return model.nodes.get(node);
    }

    private State stateAt(int state) {
        if (state < 0 || state >= model.states.size()) {
            throw new IndexOutOfBoundsException("no such state");
        }
        return model.states.get(state);
    }

    private Transition transitionAt(int transition) {
        if (transition < 0 || transition >= model.transitions.size()) {
            throw new IndexOutOfBoundsException("no such transition");
        }
        return model.transitions.get(transition);
    }

    private Pose presentPose() {
        if (model.states.isEmpty()) {
            machine.pose.size = 0;
        } else {
            machine.fillPose();
        }
        return machine.pose;
    }

    private int distanceOf(State state) {
        return state.number >= 0 && state.number < distances.length ? distances[state.number] : NONE;
    }

    private void setDistance(State state, int distance) {
        if (state.number >= 0 && state.number < distances.length) {
            distances[state.number] = distance;
        }
    }

    /** Gives the next distance to all states that one more transition reaches for the first time. */
    private void spreadFrom(int distance) {
        for (int i = 0; i < model.transitions.size(); i++) {
            Transition way = model.transitions.get(i);
            boolean reachesNew = distanceOf(way.to) == NONE;
            // A transition from any state begins where the search is, whatever state this is.
            boolean isOpen = way.from == null || distanceOf(way.from) == distance;
            if (reachesNew && isOpen) {
                setDistance(way.to, distance + 1);
            }
        }
    }

    /** A clip with its events, which are ordered by time. */
    private static final class Clip {
        final int number;
        final int length;
        final int[] times = new int[MAX_EVENTS];
        final int[] ids = new int[MAX_EVENTS];
        int events;

        Clip(int number, int length) {
            this.number = number;
            this.length = length;
        }

        void insertEvent(int time, int id) {
            if (events < 0 || events >= MAX_EVENTS) {
                return;
            }
            int place = events;
            while (place > 0 && times[place - 1] > time) {
                times[place] = times[place - 1];
                ids[place] = ids[place - 1];
                place--;
            }
            times[place] = time;
            ids[place] = id;
            events++;
        }
    }

    /** A node of a blend tree: a clip node, or a line if it has no clip. */
    private static final class Node {
        final Clip clip;
        final int parameter;
        final ArrayList<Node> children = new ArrayList<>();
        final int[] positions = new int[MAX_CHILDREN];
        /** Reckoned anew by Model.greatestDepthWith whenever a child is about to be added. */
        int depth = 1;

        Node(Clip clip, int parameter) {
            this.clip = clip;
            this.parameter = parameter;
        }

        boolean isLine() {
            return clip == null;
        }

        boolean isComplete() {
            return clip != null || !children.isEmpty();
        }

        int positionOf(int child) {
            return child >= 0 && child < positions.length ? positions[child] : 0;
        }

        boolean hasPosition(int position) {
            for (int i = 0; i < children.size(); i++) {
                if (positionOf(i) == position) {
                    return true;
                }
            }
            return false;
        }

        /** Keeps the children ordered by position. */
        void insertChild(Node child, int position) {
            int place = children.size();
            if (place >= MAX_CHILDREN) {
                return;
            }
            while (place > 0 && positions[place - 1] > position) {
                positions[place] = positions[place - 1];
                place--;
            }
            positions[place] = position;
            children.add(place, child);
        }

        int depthByChildren() {
            int deepest = 0;
            for (int i = 0; i < children.size(); i++) {
                deepest = Math.max(deepest, children.get(i).depth);
            }
            return deepest + 1;
        }
    }

    /** A state that a track can play. */
    private static final class State {
        final int number;
        final Node motion;
        final int speed;
        final boolean loops;
        final int group;

        State(int number, Node motion, int speed, boolean loops, int group) {
            this.number = number;
            this.motion = motion;
            this.speed = speed;
            this.loops = loops;
            this.group = group;
        }

        boolean isSyncedWith(State other) {
            return group != 0 && group == other.group;
        }
    }

    /** A transition; one that leads from any state has no state from which it leads. */
    private static final class Transition {
        final int number;
        State from;
        State to;
        int duration;
        int exit = NONE;
        int start;
        int mode;
        boolean ordered;
        final int[] parameters = new int[MAX_CONDITIONS];
        final int[] operators = new int[MAX_CONDITIONS];
        final int[] operands = new int[MAX_CONDITIONS];
        int conditions;

        Transition(int number, State to) {
            this.number = number;
            this.to = to;
        }

        void begin(State newFrom, State newTo, int newDuration) {
            from = newFrom;
            to = newTo;
            duration = newDuration;
            exit = NONE;
            start = 0;
            mode = 0;
            ordered = false;
            conditions = 0;
        }

        void copyFrom(Transition other) {
            begin(other.from, other.to, other.duration);
            exit = other.exit;
            start = other.start;
            mode = other.mode;
            ordered = other.ordered;
            for (int i = 0; i < other.conditions && i < MAX_CONDITIONS; i++) {
                appendCondition(other.parameters[i], other.operators[i], other.operands[i]);
            }
        }

        void appendCondition(int parameter, int operator, int operand) {
            if (conditions >= 0 && conditions < MAX_CONDITIONS) {
                parameters[conditions] = parameter;
                operators[conditions] = operator;
                operands[conditions] = operand;
                conditions++;
            }
        }

        /** Whether the list of a state has it, if those from any state to the barred one are left out. */
        boolean isListed(State listed, State barred) {
            return from == null ? to != barred : from == listed;
        }

        boolean holds(int condition, int value) {
            if (condition < 0 || condition >= conditions || condition >= MAX_CONDITIONS) {
                return false;
            }
            int operand = operands[condition];
            switch (operators[condition]) {
                case GREATER: return value > operand;
                case LESS: return value < operand;
                case EQUAL: return value == operand;
                default: return value != operand;
            }
        }
    }

    /** All that has been added, and the threshold: what running and images do not change. */
    private static final class Model {
        final int[] kinds = new int[MAX_PARAMETERS];
        int parameters;
        final ArrayList<Clip> clips = new ArrayList<>();
        final ArrayList<Node> nodes = new ArrayList<>();
        final ArrayList<State> states = new ArrayList<>();
        final ArrayList<Transition> transitions = new ArrayList<>();
        int threshold = 1;
        /** Stands where a state must stand as long as there is none, so that no track lacks one. */
        final State standIn = new State(NONE, new Node(new Clip(NONE, 1), NONE), PERCENT, true, 0);

        boolean hasParameter(int parameter) {
            return parameter >= 0 && parameter < parameters && parameter < kinds.length;
        }

        /** The kind of a parameter, or NONE if there is no such one. */
        int kindOf(int parameter) {
            return parameter >= 0 && parameter < parameters && parameter < kinds.length ? kinds[parameter] : NONE;
        }

        boolean isValue(int parameter, int value) {
            if (kindOf(parameter) == NUMBER) {
                return value >= -MAX_NUMBER && value <= MAX_NUMBER;
            }
            return value == 0 || value == 1;
        }

        boolean isCondition(int parameter, int operator, int value) {
            switch (kindOf(parameter)) {
                case NUMBER: return operator >= GREATER && operator <= UNEQUAL && isValue(parameter, value);
                case SWITCH: return operator == EQUAL && isValue(parameter, value);
                default: return operator == EQUAL && value == 1;
            }
        }

        /** The greatest depth that a node would have if the child were added to the line. */
        int greatestDepthWith(Node line, Node child) {
            int greatest = 0;
            // Children have lower numbers than their lines, so theirs are reckoned before.
            for (int i = 0; i < nodes.size(); i++) {
                Node node = nodes.get(i);
                node.depth = node.depthByChildren();
                if (node == line) {
                    node.depth = Math.max(node.depth, child.depth + 1);
                }
                greatest = Math.max(greatest, node.depth);
            }
            return greatest;
        }
    }

    /** The text, and the reader of its grammar. */
    private static final class TransitionText {
        private static final int END = -1;

        final Model model;
        final int[] bytes = new int[MAX_TEXT];
        int length;
        /** The byte that is read next; where a reading method fails, it is the fault. */
        private int at;
        private final Transition draft;

        TransitionText(Model model) {
            this.model = model;
            draft = new Transition(NONE, model.standIn);
        }

        /** Reads the text, and adds its transitions if that is wanted; answers the fault, or NONE. */
        int readAll(boolean adds) {
            at = 0;
            int room = MAX_TRANSITIONS - model.transitions.size();
            for (int i = 0; i < room; i++) {
                if (!readTransition()) {
                    return at;
                }
                if (adds) {
                    addDraft();
                }
                int next = nextByte();
                if (next == END) {
                    return NONE;
                }
                if (next != ';') {
                    return at;
                }
                at++;
            }
            nextByte();
            return at;
        }

        private void addDraft() {
            Transition added = new Transition(model.transitions.size(), draft.to);
            added.copyFrom(draft);
            model.transitions.add(added);
        }

        /** The next byte that is no blank, which is not passed yet, or END. */
        private int nextByte() {
            while (at < length && at < bytes.length && bytes[at] == ' ') {
                at++;
            }
            return at < length && at < bytes.length ? bytes[at] : END;
        }

        private boolean readTransition() {
            State from = null;
            if (nextByte() != '*') {
                from = stateOf(nextByte());
                if (from == null) {
                    return false;
                }
            }
            at++;
            if (!readSign('>')) {
                return false;
            }
            State to = stateOf(nextByte());
            if (to == null) {
                return false;
            }
            at++;
            if (!readSign('/')) {
                return false;
            }
            int duration = readNumber(MAX_DURATION);
            if (duration == NONE) {
                return false;
            }
            draft.begin(from, to, duration);
            return readAttributes();
        }

        private boolean readAttributes() {
            int seen = 0;
            for (int i = 0; i < MAX_TEXT; i++) {
                int sign = nextByte();
                int mark = markOf(sign);
                if (mark == 0) {
                    return true;
                }
                boolean isExitOfAny = sign == '@' && draft.from == null;
                boolean isFourth = sign == '?' && draft.conditions >= MAX_CONDITIONS;
                if ((seen & mark) != 0 || isExitOfAny || isFourth) {
                    return false;
                }
                if (sign != '?') {
                    seen |= mark;
                }
                at++;
                if (!readAttribute(sign)) {
                    return false;
                }
            }
            return true;
        }

        private boolean readAttribute(int sign) {
            switch (sign) {
                case '@':
                    draft.exit = readNumber(MAX_EXIT);
                    return draft.exit != NONE;
                case '+':
                    draft.start = readNumber(MAX_START);
                    return draft.start != NONE;
                case '!':
                    draft.mode = readNumber(MAX_MODE);
                    return draft.mode != NONE;
                case 'o':
                    draft.ordered = true;
                    return true;
                default:
                    return readCondition();
            }
        }

        private boolean readCondition() {
            boolean isDenied = nextByte() == '~';
            if (isDenied) {
                at++;
            }
            int parameter = parameterOf(nextByte());
            int kind = model.kindOf(parameter);
            if (kind == NONE || isDenied && kind != SWITCH) {
                return false;
            }
            at++;
            if (kind != NUMBER) {
                draft.appendCondition(parameter, EQUAL, isDenied ? 0 : 1);
                return true;
            }
            int operator = operatorOf(nextByte());
            if (operator == NONE) {
                return false;
            }
            at++;
            boolean isNegative = nextByte() == '-';
            if (isNegative) {
                at++;
            }
            int number = readNumber(MAX_NUMBER);
            if (number == NONE) {
                return false;
            }
            draft.appendCondition(parameter, operator, isNegative ? -number : number);
            return true;
        }

        private boolean readSign(int sign) {
            if (nextByte() != sign) {
                return false;
            }
            at++;
            return true;
        }

        /** Reads a number of 1 to 3 digits that is at most the greatest one; otherwise NONE. */
        private int readNumber(int greatest) {
            nextByte();
            int first = at;
            int number = 0;
            while (at < length && at < bytes.length && bytes[at] >= '0' && bytes[at] <= '9') {
                if (at - first < 3) {
                    number = number * 10 + bytes[at] - '0';
                }
                at++;
            }
            int digits = at - first;
            if (digits < 1 || digits > 3 || number > greatest) {
                at = first;
                return NONE;
            }
            return number;
        }

        private State stateOf(int letter) {
            int state = letter - 'A';
            return state >= 0 && state < model.states.size() ? model.states.get(state) : null;
        }

        private static int parameterOf(int letter) {
            return letter >= 'a' && letter <= 'h' ? letter - 'a' : NONE;
        }

        private static int markOf(int sign) {
            switch (sign) {
                case '@': return 1;
                case '+': return 2;
                case '!': return 4;
                case 'o': return 8;
                case '?': return 16;
                default: return 0;
            }
        }

        private static int operatorOf(int sign) {
            switch (sign) {
                case '>': return GREATER;
                case '<': return LESS;
                case '=': return EQUAL;
                case '#': return UNEQUAL;
                default: return NONE;
            }
        }
    }

    /** The weights of the clips in the blend of a node. */
    private static final class Blend {
        private final int[] weights = new int[MAX_CLIPS];

        void fill(Node motion, int weight, int[] values) {
            for (int i = 0; i < weights.length; i++) {
                weights[i] = 0;
            }
            addParts(weights, motion, weight, values, 1);
        }

        int weightOf(int clip) {
            return clip >= 0 && clip < weights.length ? weights[clip] : 0;
        }

        private static void addParts(int[] weights, Node node, int weight, int[] values, int depth) {
            if (weight == 0 || depth > MAX_DEPTH) {
                return;
            }
            if (node.clip != null) {
                int clip = node.clip.number;
                if (clip >= 0 && clip < weights.length) {
                    weights[clip] += weight;
                }
                return;
            }
            if (node.parameter < 0 || node.parameter >= values.length || node.children.isEmpty()) {
                return;
            }
            int value = values[node.parameter];
            int high = 0;
            while (high < node.children.size() - 1 && node.positionOf(high) < value) {
                high++;
            }
            int low = high > 0 && node.positionOf(high) > value ? high - 1 : high;
            int distance = node.positionOf(high) - node.positionOf(low);
            // Otherwise one child has all the weight, and no part is added for a weight of 0.
            int upper = 0;
            if (distance > 0) {
                upper = (int) ((long) weight * (value - node.positionOf(low)) / distance);
            }
            addParts(weights, node.children.get(high), upper, values, depth + 1);
            addParts(weights, node.children.get(low), weight - upper, values, depth + 1);
        }
    }

    /** A state that is played. */
    private static final class Track {
        State state;
        long cycles;
        int phase;
        boolean fresh = true;
        /** The progress, and whether it was fresh, before it was advanced for the last time. */
        long before;
        boolean wasFresh = true;

        Track(State state) {
            this.state = state;
        }

        void begin(State newState, int newPhase) {
            state = newState;
            cycles = 0;
            phase = newPhase;
            fresh = true;
            before = newPhase;
            wasFresh = true;
        }

        void copyFrom(Track other) {
            state = other.state;
            cycles = other.cycles;
            phase = other.phase;
            fresh = other.fresh;
            before = other.before;
            wasFresh = other.wasFresh;
        }

        long progressNow() {
            return cycles * WHOLE + phase;
        }

        void advance(long step) {
            before = progressNow();
            wasFresh = fresh;
            fresh = false;
            long after = before + step;
            if (state.loops) {
                cycles = after / WHOLE;
                phase = (int) (after % WHOLE);
            } else {
                phase = (int) Math.min(after, WHOLE);
            }
        }

        /** Whether the latest advance reached a phase, in any cycle that there is. */
        boolean hasReached(long mark) {
            long now = progressNow();
            if (now < mark) {
                return false;
            }
            // Of all cycles only the last one that is reached can lie behind the progress before.
            long last = state.loops ? now - (now - mark) % WHOLE : mark;
            return last > before || wasFresh && last == before;
        }
    }

    /** Entries of clip, time and weight, ordered by clip and time. */
    private static final class Pose {
        final int[] clips = new int[MAX_POSE];
        final int[] times = new int[MAX_POSE];
        final int[] weights = new int[MAX_POSE];
        int size;

        void copyFrom(Pose other) {
            size = other.size;
            System.arraycopy(other.clips, 0, clips, 0, MAX_POSE);
            System.arraycopy(other.times, 0, times, 0, MAX_POSE);
            System.arraycopy(other.weights, 0, weights, 0, MAX_POSE);
        }

        /** Adds to the entry of this clip and time, or puts a new one at its place. */
        void addEntry(int clip, int time, int weight) {
            int place = 0;
            while (place < size && place < MAX_POSE && isBefore(place, clip, time)) {
                place++;
            }
            if (weight == 0 || place >= MAX_POSE) {
                return;
            }
            if (place < size && clips[place] == clip && times[place] == time) {
                weights[place] += weight;
                return;
            }
            if (size >= MAX_POSE) {
                return;
            }
            for (int i = size; i > place; i--) {
                clips[i] = clips[i - 1];
                times[i] = times[i - 1];
                weights[i] = weights[i - 1];
            }
            clips[place] = clip;
            times[place] = time;
            weights[place] = weight;
            size++;
        }

        private boolean isBefore(int entry, int clip, int time) {
            if (entry < 0 || entry >= MAX_POSE) {
                return false;
            }
            return clips[entry] < clip || clips[entry] == clip && times[entry] < time;
        }

        void addFrozen(Pose frozen, int share) {
            long missing = share;
            for (int i = 0; i < frozen.size && i < MAX_POSE; i++) {
                missing -= (long) frozen.weights[i] * share / WHOLE;
            }
            for (int i = 0; i < frozen.size && i < MAX_POSE; i++) {
                long weight = (long) frozen.weights[i] * share / WHOLE;
                if (i == 0) {
                    weight += missing;
                }
                addEntry(frozen.clips[i], frozen.times[i], (int) weight);
            }
        }
    }

    /** The latest events that were fired. */
    private static final class EventLog {
        static final int PROPERTIES = 4;

        private final int[][] properties = new int[PROPERTIES][MAX_KEPT_EVENTS];
        int total;

        void append(int tick, int id, int clip, int state) {
            int place = placeOf(total);
            properties[0][place] = tick;
            properties[1][place] = id;
            properties[2][place] = clip;
            properties[3][place] = state;
            total++;
        }

        int kept() {
            return Math.min(total, MAX_KEPT_EVENTS);
        }

        int propertyOf(int event, int what) {
            if (event < 0 || event >= kept() || what < 0 || what >= PROPERTIES) {
                return NONE;
            }
            return properties[what][placeOf(total - kept() + event)];
        }

        void copyFrom(EventLog other) {
            total = other.total;
            for (int i = 0; i < PROPERTIES; i++) {
                System.arraycopy(other.properties[i], 0, properties[i], 0, MAX_KEPT_EVENTS);
            }
        }

        private static int placeOf(int number) {
            return Math.floorMod(number, MAX_KEPT_EVENTS);
        }
    }

    /** The running machine: all that an image contains. */
    private static final class Machine {
        private static final int NOWHERE = 0, FROM_SOURCE = 1, FROM_TARGET = 2;

        final Model model;
        final int[] values = new int[MAX_PARAMETERS];
        /** The only track while the machine is idle. */
        final Track source;
        final Track target;
        /** The present transition; null while the machine is idle. */
        Transition current;
        int elapsed;
        boolean frozen;
        private final Pose frozenPose = new Pose();
        private int interruptions;
        int ticks;
        final EventLog log = new EventLog();
        /** What is reckoned anew at each use. */
        final Blend blend = new Blend();
        final Pose pose = new Pose();

        Machine(Model model) {
            this.model = model;
            source = new Track(model.standIn);
            target = new Track(model.standIn);
        }

        void copyFrom(Machine other) {
            System.arraycopy(other.values, 0, values, 0, MAX_PARAMETERS);
            source.copyFrom(other.source);
            target.copyFrom(other.target);
            current = other.current;
            elapsed = other.elapsed;
            frozen = other.frozen;
            frozenPose.copyFrom(other.frozenPose);
            interruptions = other.interruptions;
            ticks = other.ticks;
            log.copyFrom(other.log);
        }

        void beginIn(State state) {
            target.begin(state, 0);
            becomeIdle();
        }

        /** Forgets the parameters, the ticks and the events. */
        void forget() {
            for (int i = 0; i < values.length; i++) {
                values[i] = 0;
            }
            ticks = 0;
            log.total = 0;
        }

        int valueOf(int parameter) {
            return parameter >= 0 && parameter < values.length ? values[parameter] : 0;
        }

        void setValue(int parameter, int value) {
            if (parameter >= 0 && parameter < values.length) {
                values[parameter] = value;
            }
        }

        int lengthOf(State state) {
            blend.fill(state.motion, WHOLE, values);
            long sum = 0;
            for (int i = 0; i < model.clips.size(); i++) {
                sum += (long) blend.weightOf(i) * model.clips.get(i).length;
            }
            return (int) Math.max(sum / WHOLE, 1);
        }

        void runTick() {
            for (int i = 0; i < TAKEN_IN_A_TICK; i++) {
                Transition next = firstPossible();
                if (next == null) {
                    break;
                }
                take(next);
            }
            advanceTracks();
            if (current != null) {
                elapsed++;
                if (elapsed >= current.duration) {
                    becomeIdle();
                }
            }
            ticks++;
            fireEvents();
        }

        // ---- candidates

        private Transition firstPossible() {
            boolean targetFirst = current != null && (current.mode == TARGET_ONLY || current.mode == TARGET_FIRST);
            Transition found = firstPossibleOf(targetFirst ? FROM_TARGET : FROM_SOURCE);
            if (found == null && current != null) {
                found = firstPossibleOf(targetFirst ? FROM_SOURCE : FROM_TARGET);
            }
            return found;
        }

        /** The first possible candidate from one list: those from any state, and then the others. */
        private Transition firstPossibleOf(int origin) {
            Transition found = null;
            for (int i = 0; i < model.transitions.size(); i++) {
                Transition next = model.transitions.get(i);
                boolean comesBefore = found == null || next.from == null && found.from != null;
                if (comesBefore && originOf(next) == origin && obstacleFrom(origin, next) == 0) {
                    found = next;
                }
            }
            return found;
        }

        /** From which list a transition is a candidate; an idle machine has the source list alone. */
        int originOf(Transition asked) {
            if (current == null) {
                return asked.isListed(source.state, source.state) ? FROM_SOURCE : NOWHERE;
            }
            if (interruptions >= MAX_INTERRUPTIONS || asked == current) {
                return NOWHERE;
            }
            boolean isBehind = current.ordered && asked.number > current.number;
            boolean inSource = !isBehind && asked.isListed(source.state, target.state);
            boolean inTarget = asked.isListed(target.state, target.state);
            switch (current.mode) {
                case SOURCE_ONLY: return inSource ? FROM_SOURCE : NOWHERE;
                case TARGET_ONLY: return inTarget ? FROM_TARGET : NOWHERE;
                case SOURCE_FIRST: return inSource ? FROM_SOURCE : inTarget ? FROM_TARGET : NOWHERE;
                case TARGET_FIRST: return inTarget ? FROM_TARGET : inSource ? FROM_SOURCE : NOWHERE;
                default: return NOWHERE;
            }
        }

        /** What hinders a transition of this origin from being taken, as blocked() tells it. */
        int obstacleFrom(int origin, Transition asked) {
            if (origin == NOWHERE) {
                return 1;
            }
            Track left = origin == FROM_TARGET ? target : source;
            if (asked.exit != NONE && left.progressNow() < (long) asked.exit * HUNDREDTH) {
                return 2;
            }
            for (int i = 0; i < asked.conditions && i < MAX_CONDITIONS; i++) {
                if (!asked.holds(i, valueOf(asked.parameters[i]))) {
                    return 3 + i;
                }
            }
            return 0;
        }

        private void take(Transition next) {
            boolean comesFromTarget = originOf(next) == FROM_TARGET;
            clearTriggers(next);
            if (current != null) {
                fillPose();
                frozenPose.copyFrom(pose);
                frozen = true;
                interruptions++;
                if (comesFromTarget) {
                    source.copyFrom(target);
                }
            }
            target.begin(next.to, firstPhase(next));
            if (next.duration == 0) {
                becomeIdle();
            } else {
                current = next;
                elapsed = 0;
            }
        }

        private void clearTriggers(Transition taken) {
            for (int i = 0; i < taken.conditions && i < MAX_CONDITIONS; i++) {
                if (model.kindOf(taken.parameters[i]) == TRIGGER) {
                    setValue(taken.parameters[i], 0);
                }
            }
        }

        private int firstPhase(Transition taken) {
            if (frozen || !source.state.isSyncedWith(taken.to)) {
                return taken.start * HUNDREDTH;
            }
            return taken.to.loops ? Math.min(source.phase, WHOLE - 1) : source.phase;
        }

        private void becomeIdle() {
            source.copyFrom(target);
            current = null;
            elapsed = 0;
            frozen = false;
            interruptions = 0;
        }

        // ---- tracks

        private int targetShare() {
            if (current == null || current.duration <= 0) {
                return WHOLE;
            }
            return (int) ((long) WHOLE * elapsed / current.duration);
        }

        private void advanceTracks() {
            if (current == null) {
                source.advance(stepOf(source.state));
                return;
            }
            if (!frozen && source.state.isSyncedWith(target.state)) {
                long step = commonStep();
                source.advance(step);
                target.advance(step);
                return;
            }
            if (!frozen) {
                source.advance(stepOf(source.state));
            }
            target.advance(stepOf(target.state));
        }

        private long stepOf(State state) {
            return stepBy(state.speed, lengthOf(state));
        }

        private long commonStep() {
            long speed = mixed(source.state.speed, target.state.speed);
            long length = mixed(lengthOf(source.state), lengthOf(target.state));
            return stepBy(speed, length);
        }

        private long mixed(int ofSource, int ofTarget) {
            long share = targetShare();
            return ((WHOLE - share) * ofSource + share * ofTarget) / WHOLE;
        }

        private static long stepBy(long speed, long length) {
            return length <= 0 ? 0 : WHOLE * speed / (PERCENT * length);
        }

        // ---- events

        private void fireEvents() {
            if (current == null) {
                // The source of a transition that has just ended has no share, so it fires nothing.
                fireTrack(source, WHOLE);
                return;
            }
            int share = targetShare();
            if (!frozen) {
                fireTrack(source, WHOLE - share);
            }
            fireTrack(target, share);
        }

        private void fireTrack(Track track, int share) {
            blend.fill(track.state.motion, share, values);
            for (int i = 0; i < model.clips.size(); i++) {
                long weight = blend.weightOf(i);
                if (weight != 0 && weight * PERCENT >= (long) model.threshold * WHOLE) {
                    fireClip(track, model.clips.get(i));
                }
            }
        }

        private void fireClip(Track track, Clip clip) {
            if (clip.length <= 0) {
                return;
            }
            for (int i = 0; i < clip.events && i < MAX_EVENTS; i++) {
                long mark = (long) clip.times[i] * WHOLE / clip.length;
                if (track.hasReached(mark)) {
                    log.append(ticks, clip.ids[i], clip.number, track.state.number);
                }
            }
        }

        // ---- pose

        /** Puts the present pose into the field for it. */
        void fillPose() {
            pose.size = 0;
            if (current == null) {
                addTrackPose(source, WHOLE);
                return;
            }
            int share = targetShare();
            if (frozen) {
                pose.addFrozen(frozenPose, WHOLE - share);
            } else {
                addTrackPose(source, WHOLE - share);
            }
            addTrackPose(target, share);
        }

        private void addTrackPose(Track track, int share) {
            blend.fill(track.state.motion, share, values);
            for (int i = 0; i < model.clips.size(); i++) {
                int length = model.clips.get(i).length;
                int time = (int) Math.min((long) track.phase * length / WHOLE, length - 1);
                pose.addEntry(i, time, blend.weightOf(i));
            }
        }
    }
}
