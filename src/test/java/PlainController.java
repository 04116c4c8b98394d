import java.util.ArrayList;
import java.util.Arrays;
import java.util.List;
import java.util.TreeMap;

/**
 * A second telling of the document, as literal as can be and without care for speed or room. The
 * class under test is compared with it; nothing of its code is shared, so a slip must be made twice
 * to stay unseen. Where a call throws, it throws the document's exception, as the class does.
 */
final class PlainController {
    static final int WHOLE = 1000000;

    static final class Clip { int length; List<int[]> events = new ArrayList<>(); }

    static final class Node { int clip = -1; int parameter = -1; TreeMap<Integer, Integer> children = new TreeMap<>(); }

    static final class State { int motion; int speed; boolean loops; int group; }

    static final class Transition {
        int from, to, duration, exit = -1, start, mode;
        boolean ordered;
        List<int[]> conditions = new ArrayList<>();
    }

    static final class Track {
        final int state;
        long progress;
        boolean fresh = true;
        Track(int state, long progress) { this.state = state; this.progress = progress; }
        Track copy() { Track t = new Track(state, progress); t.fresh = fresh; return t; }
        long phase(PlainController c) { return c.states.get(state).loops ? progress % WHOLE : progress; }
    }

    /** What runs and what an image holds; copied as a whole. */
    static final class Run {
        int[] values = new int[8];
        Track source, target;
        int transition = -1, elapsed;
        TreeMap<Integer, Long> frozen;
        int interruptions;
        int ticks;
        List<int[]> fired = new ArrayList<>();
        Run copy() {
            Run r = new Run();
            r.values = values.clone();
            r.source = source == null ? null : source.copy();
            r.target = target == null ? null : target.copy();
            r.transition = transition;
            r.elapsed = elapsed;
            r.frozen = frozen == null ? null : new TreeMap<>(frozen);
            r.interruptions = interruptions;
            r.ticks = ticks;
            r.fired = new ArrayList<>(fired);
            return r;
        }
    }

    final List<Integer> kinds = new ArrayList<>();
    final List<Clip> clips = new ArrayList<>();
    final List<Node> nodes = new ArrayList<>();
    final List<State> states = new ArrayList<>();
    final List<Transition> transitions = new ArrayList<>();
    final List<Integer> text = new ArrayList<>();
    final Run[] images = new Run[2];
    Run run = new Run();
    int threshold = 1;

    static void index(boolean holds) { if (!holds) throw new IndexOutOfBoundsException(); }
    static void argument(boolean holds) { if (!holds) throw new IllegalArgumentException(); }
    static void state(boolean holds) { if (!holds) throw new IllegalStateException(); }
    static boolean in(int x, int low, int high) { return low <= x && x <= high; }
    static boolean of(int x, List<?> list) { return in(x, 0, list.size() - 1); }

    int addParameter(int kind) {
        argument(in(kind, 0, 2));
        state(kinds.size() < 8);
        kinds.add(kind);
        return kinds.size() - 1;
    }

    int set(int p, int v) {
        index(of(p, kinds));
        argument(kinds.get(p) == 0 ? in(v, -100, 100) : in(v, 0, 1));
        int old = run.values[p];
        run.values[p] = v;
        return old;
    }

    int value(int p) { index(of(p, kinds)); return run.values[p]; }

    int addClip(int length) {
        argument(in(length, 1, 500));
        state(clips.size() < 12);
        Clip c = new Clip();
        c.length = length;
        clips.add(c);
        return clips.size() - 1;
    }

    int addEvent(int clip, int time, int id) {
        index(of(clip, clips));
        Clip c = clips.get(clip);
        argument(in(time, 0, c.length - 1) && in(id, 0, 99));
        state(c.events.size() < 5);
        c.events.add(new int[] {time, id});
        c.events.sort((a, b) -> Integer.compare(a[0], b[0]));
        return c.events.size();
    }

    int addClipNode(int clip) {
        index(of(clip, clips));
        state(nodes.size() < 20);
        Node n = new Node();
        n.clip = clip;
        nodes.add(n);
        return nodes.size() - 1;
    }

    int addLine(int p) {
        index(of(p, kinds));
        state(kinds.get(p) == 0 && nodes.size() < 20);
        Node n = new Node();
        n.parameter = p;
        nodes.add(n);
        return nodes.size() - 1;
    }

    int depth(int node) {
        int deepest = 0;
        for (int child : nodes.get(node).children.values()) deepest = Math.max(deepest, depth(child));
        return 1 + deepest;
    }

    boolean complete(int node) { return nodes.get(node).clip >= 0 || !nodes.get(node).children.isEmpty(); }

    int addChild(int line, int node, int position) {
        index(of(line, nodes) && of(node, nodes));
        Node l = nodes.get(line);
        argument(l.clip < 0 && node < line && in(position, -100, 100));
        state(l.children.size() < 5 && !l.children.containsKey(position) && complete(node));
        l.children.put(position, node);
        for (int n = 0; n < nodes.size(); n++) {
            if (depth(n) > 4) {
                l.children.remove(position);
                throw new IllegalStateException();
            }
        }
        return l.children.size();
    }

    int addState(int motion, int speed, boolean loops, int group) {
        index(of(motion, nodes));
        argument(in(speed, 1, 400) && in(group, 0, 3));
        state(complete(motion) && states.size() < 10);
        State s = new State();
        s.motion = motion;
        s.speed = speed;
        s.loops = loops;
        s.group = group;
        states.add(s);
        if (states.size() == 1) run.source = new Track(0, 0);
        return states.size() - 1;
    }

    int addTransition(int from, int to, int duration) {
        index((from == -1 || of(from, states)) && of(to, states));
        argument(in(duration, 0, 60));
        state(transitions.size() < 24);
        Transition t = new Transition();
        t.from = from;
        t.to = to;
        t.duration = duration;
        transitions.add(t);
        return transitions.size() - 1;
    }

    int setTiming(int transition, int exit, int start) {
        index(of(transition, transitions));
        argument(in(exit, -1, 300) && in(start, 0, 99));
        Transition t = transitions.get(transition);
        state(exit == -1 || t.from != -1);
        int old = t.exit;
        t.exit = exit;
        t.start = start;
        return old;
    }

    int setInterruption(int transition, int mode, boolean ordered) {
        index(of(transition, transitions));
        argument(in(mode, 0, 4));
        Transition t = transitions.get(transition);
        int old = t.mode;
        t.mode = mode;
        t.ordered = ordered;
        return old;
    }

    int addCondition(int transition, int p, int operator, int value) {
        index(of(transition, transitions) && of(p, kinds));
        if (kinds.get(p) == 0) argument(in(operator, 0, 3) && in(value, -100, 100));
        if (kinds.get(p) == 1) argument(operator == 2 && in(value, 0, 1));
        if (kinds.get(p) == 2) argument(operator == 2 && value == 1);
        Transition t = transitions.get(transition);
        state(t.conditions.size() < 3);
        t.conditions.add(new int[] {p, operator, value});
        return t.conditions.size();
    }

    int setThreshold(int percent) {
        argument(in(percent, 0, 100));
        int old = threshold;
        threshold = percent;
        return old;
    }

    // ---- text: an automaton that is fed byte by byte

    int type(int code) {
        argument(in(code, 0, 255));
        state(text.size() < 150);
        text.add(code);
        return text.size();
    }

    int clearText() { int n = text.size(); text.clear(); return n; }

    int fault() { return new Automaton().run(new ArrayList<>()); }

    int load() {
        List<Transition> read = new ArrayList<>();
        state(new Automaton().run(read) == -1);
        transitions.addAll(read);
        text.clear();
        return read.size();
    }

    final class Automaton {
        String place = "place";
        Transition now;
        String seen = "";
        int p, operator, sign, digits, value, firstDigit, greatest;
        char numberOf;

        int run(List<Transition> read) {
            for (int i = 0; i < text.size(); i++) {
                char c = (char) (int) text.get(i);
                if (place.equals("digits") && !(c >= '0' && c <= '9')) {
                    if (!endNumber()) return firstDigit;
                }
                if (c == ' ') continue;
                if (!feed(c, i, read)) return place.equals("digits") ? firstDigit : i;
            }
            if (place.equals("digits") && !endNumber()) return firstDigit;
            return place.equals("attribute") ? -1 : text.size();
        }

        boolean endNumber() {
            place = "attribute";
            if (digits > 3 || value > greatest) return false;
            if (numberOf == '/') now.duration = value;
            if (numberOf == '@') now.exit = value;
            if (numberOf == '+') now.start = value;
            if (numberOf == '!') now.mode = value;
            if (numberOf == '?') now.conditions.add(new int[] {p, operator, sign * value});
            return true;
        }

        boolean expectNumber(char of, int most) {
            place = "number";
            numberOf = of;
            greatest = most;
            return true;
        }

        boolean feed(char c, int i, List<Transition> read) {
            boolean digit = c >= '0' && c <= '9';
            switch (place) {
                case "place":
                    if (transitions.size() + read.size() >= 24) return false;
                    if (c != '*' && !of(c - 'A', states)) return false;
                    now = new Transition();
                    now.from = c == '*' ? -1 : c - 'A';
                    seen = "";
                    place = ">";
                    return true;
                case ">": case "/":
                    if (c != place.charAt(0)) return false;
                    if (c == '/') return expectNumber('/', 60);
                    place = "state";
                    return true;
                case "state":
                    now.to = c - 'A';
                    place = "/";
                    return of(c - 'A', states);
                case "signed number":
                    if (c == '-') { sign = -1; place = "number"; return true; }
                    sign = 1;
                    place = "number";
                    return feed(c, i, read);
                case "number":
                    if (!digit) return false;
                    firstDigit = i;
                    digits = 1;
                    value = c - '0';
                    place = "digits";
                    if (numberOf == '/') read.add(now);
                    return true;
                case "digits":
                    digits++;
                    value = Math.min(100000, value * 10 + c - '0');
                    return true;
                case "attribute": return feedAttribute(c);
                case "condition":
                    if (c == '~') { place = "switch"; return true; }
                    p = c - 'a';
                    if (c < 'a' || c > 'h' || !of(p, kinds)) return false;
                    place = kinds.get(p) == 0 ? "operator" : "attribute";
                    if (kinds.get(p) != 0) now.conditions.add(new int[] {p, 2, 1});
                    return true;
                case "switch":
                    p = c - 'a';
                    if (c < 'a' || c > 'h' || !of(p, kinds) || kinds.get(p) != 1) return false;
                    now.conditions.add(new int[] {p, 2, 0});
                    place = "attribute";
                    return true;
                case "operator":
                    operator = "><=#".indexOf(c);
                    place = "signed number";
                    expectSigned();
                    return operator >= 0;
                default: throw new AssertionError(place);
            }
        }

        void expectSigned() { expectNumber('?', 100); place = "signed number"; }

        boolean feedAttribute(char c) {
            if (c == ';') { place = "place"; return true; }
            if ("@+!o?".indexOf(c) < 0) return false;
            int before = 0;
            for (char s : seen.toCharArray()) if (s == c) before++;
            if (before >= (c == '?' ? 3 : 1) || c == '@' && now.from == -1) return false;
            seen += c;
            if (c == '@') return expectNumber('@', 300);
            if (c == '+') return expectNumber('+', 99);
            if (c == '!') return expectNumber('!', 4);
            if (c == 'o') now.ordered = true;
            if (c == '?') place = "condition";
            return true;
        }
    }

    // ---- blends

    TreeMap<Integer, Long> blend(int node, long w, int[] values) {
        TreeMap<Integer, Long> parts = new TreeMap<>();
        if (w == 0) return parts;
        Node n = nodes.get(node);
        if (n.clip >= 0) {
            parts.put(n.clip, w);
            return parts;
        }
        int v = values[n.parameter];
        int lowest = n.children.firstKey(), greatest = n.children.lastKey();
        if (v <= lowest) return blend(n.children.get(lowest), w, values);
        if (v >= greatest) return blend(n.children.get(greatest), w, values);
        if (n.children.containsKey(v)) return blend(n.children.get(v), w, values);
        int p = n.children.lowerKey(v), q = n.children.higherKey(v);
        long r = w * (v - p) / (q - p);
        blend(n.children.get(q), r, values).forEach((c, x) -> parts.merge(c, x, Long::sum));
        blend(n.children.get(p), w - r, values).forEach((c, x) -> parts.merge(c, x, Long::sum));
        return parts;
    }

    long length(int state, int[] values) {
        long[] sum = {0};
        blend(states.get(state).motion, WHOLE, values).forEach((c, w) -> sum[0] += w * clips.get(c).length);
        return Math.max(1, sum[0] / WHOLE);
    }

    // ---- the machine

    List<Integer> listOf(int state) {
        List<Integer> list = new ArrayList<>();
        for (int i = 0; i < transitions.size(); i++) if (transitions.get(i).from == -1) list.add(i);
        for (int i = 0; i < transitions.size(); i++) if (transitions.get(i).from == state) list.add(i);
        return list;
    }

    /** The candidates in order, each with 0 if it comes from the source, 1 if from the target. */
    List<int[]> candidates(Run r) {
        List<int[]> all = new ArrayList<>();
        if (r.transition == -1) {
            List<Integer> list = listOf(r.source.state);
            list.removeIf(t -> transitions.get(t).from == -1 && transitions.get(t).to == r.source.state);
            for (int t : list) all.add(new int[] {t, 0});
            return all;
        }
        if (r.interruptions == 2) return all;
        Transition x = transitions.get(r.transition);
        List<Integer> sources = listOf(r.source.state), targets = listOf(r.target.state);
        for (List<Integer> list : Arrays.asList(sources, targets)) {
            list.removeIf(t -> t == r.transition);
            list.removeIf(t -> transitions.get(t).from == -1 && transitions.get(t).to == r.target.state);
        }
        if (x.ordered) sources.removeIf(t -> t > r.transition);
        if (x.mode == 1 || x.mode == 3) for (int t : sources) all.add(new int[] {t, 0});
        if (x.mode == 2 || x.mode == 4) for (int t : targets) all.add(new int[] {t, 1});
        if (x.mode == 3) for (int t : targets) if (!sources.contains(t)) all.add(new int[] {t, 1});
        if (x.mode == 4) for (int t : sources) if (!targets.contains(t)) all.add(new int[] {t, 0});
        return all;
    }

    int obstacle(Run r, int[] candidate) {
        Transition t = transitions.get(candidate[0]);
        Track left = candidate[1] == 0 ? r.source : r.target;
        if (t.exit != -1 && left.progress < t.exit * 10000L) return 2;
        for (int i = 0; i < t.conditions.size(); i++) {
            int[] c = t.conditions.get(i);
            int v = r.values[c[0]];
            boolean holds = c[1] == 0 ? v > c[2] : c[1] == 1 ? v < c[2] : c[1] == 2 ? v == c[2] : v != c[2];
            if (!holds) return 3 + i;
        }
        return 0;
    }

    long targetShare(Run r) {
        return (long) WHOLE * r.elapsed / transitions.get(r.transition).duration;
    }

    void addTrackPose(Run r, Track track, long share, TreeMap<Integer, Long> entries) {
        blend(states.get(track.state).motion, share, r.values).forEach((clip, w) -> {
            long length = clips.get(clip).length;
            long time = Math.min(length - 1, track.phase(this) * length / WHOLE);
            entries.merge(clip * 1000 + (int) time, w, Long::sum);
        });
    }

    /** The entries, by clip * 1000 + time. */
    TreeMap<Integer, Long> pose(Run r) {
        TreeMap<Integer, Long> entries = new TreeMap<>();
        if (r.source == null) return entries;
        if (r.transition == -1) {
            addTrackPose(r, r.source, WHOLE, entries);
            return entries;
        }
        long share = WHOLE - targetShare(r);
        if (r.frozen == null) {
            addTrackPose(r, r.source, share, entries);
        } else {
            long sum = 0;
            for (int key : r.frozen.keySet()) {
                entries.put(key, r.frozen.get(key) * share / WHOLE);
                sum += entries.get(key);
            }
            entries.merge(r.frozen.firstKey(), share - sum, Long::sum);
            entries.values().removeIf(w -> w == 0);
        }
        addTrackPose(r, r.target, targetShare(r), entries);
        return entries;
    }

    void take(Run r, int[] candidate) {
        Transition y = transitions.get(candidate[0]);
        for (int[] c : y.conditions) if (kinds.get(c[0]) == 2) r.values[c[0]] = 0;
        if (r.transition != -1) {
            r.frozen = pose(r);
            r.interruptions++;
            if (candidate[1] == 1) r.source = r.target;
        } else {
            r.frozen = null;
            r.interruptions = 0;
        }
        State from = states.get(r.source.state), to = states.get(y.to);
        long phase = y.start * 10000L;
        if (r.frozen == null && from.group == to.group && to.group != 0) {
            phase = r.source.phase(this);
            if (phase == WHOLE && to.loops) phase = WHOLE - 1;
        }
        r.target = new Track(y.to, phase);
        r.transition = candidate[0];
        r.elapsed = 0;
        if (y.duration == 0) idle(r);
    }

    void idle(Run r) {
        r.source = r.target;
        r.target = null;
        r.transition = -1;
        r.frozen = null;
        r.interruptions = 0;
    }

    void advance(Track t, long step) {
        t.progress += step;
        if (!states.get(t.state).loops) t.progress = Math.min(t.progress, WHOLE);
        t.fresh = false;
    }

    void oneTick(Run r) {
        for (int i = 0; i < 4; i++) {
            for (int[] c : candidates(r)) {
                if (obstacle(r, c) == 0) {
                    take(r, c);
                    break;
                }
            }
        }
        Track source = r.source, target = r.target;
        Track sourceBefore = source.copy(), targetBefore = target == null ? null : target.copy();
        boolean wasIdle = r.transition == -1, frozen = r.frozen != null;
        long sourceStep = (long) WHOLE * states.get(source.state).speed / (100 * length(source.state, r.values));
        if (wasIdle) {
            advance(source, sourceStep);
        } else {
            State s = states.get(source.state), t = states.get(target.state);
            long targetStep = (long) WHOLE * t.speed / (100 * length(target.state, r.values));
            if (!frozen && s.group == t.group && s.group != 0) {
                long share = targetShare(r), rest = WHOLE - share;
                long speed = (rest * s.speed + share * t.speed) / WHOLE;
                long length = (rest * length(source.state, r.values) + share * length(target.state, r.values)) / WHOLE;
                sourceStep = WHOLE * speed / (100 * length);
                targetStep = sourceStep;
            }
            if (!frozen) advance(source, sourceStep);
            advance(target, targetStep);
        }
        long sourceShare = WHOLE, share = WHOLE;
        if (!wasIdle) {
            r.elapsed++;
            share = targetShare(r);
            sourceShare = WHOLE - share;
            if (r.elapsed == transitions.get(r.transition).duration) idle(r);
        }
        r.ticks++;
        if (!frozen) fire(r, source, sourceBefore, sourceShare);
        if (!wasIdle) fire(r, target, targetBefore, share);
    }

    void fire(Run r, Track track, Track before, long share) {
        State s = states.get(track.state);
        blend(s.motion, share, r.values).forEach((clip, w) -> {
            if (w * 100 < (long) threshold * WHOLE) return;
            Clip c = clips.get(clip);
            for (int[] e : c.events) {
                long z = (long) e[0] * WHOLE / c.length;
                boolean fires = false;
                long last = s.loops ? track.progress / WHOLE : 0;
                for (long n = s.loops ? Math.max(0, last - 6) : 0; n <= last; n++) {
                    long at = n * WHOLE + z;
                    if (at <= track.progress && (at > before.progress || at == before.progress && before.fresh)) fires = true;
                }
                if (fires) r.fired.add(new int[] {r.ticks, e[1], clip, track.state});
            }
        });
    }

    int tick(int ticks) {
        argument(in(ticks, 1, 100));
        state(!states.isEmpty());
        int before = run.fired.size();
        for (int i = 0; i < ticks; i++) oneTick(run);
        return run.fired.size() - before;
    }

    int reset() {
        int ticks = run.ticks;
        run = new Run();
        if (!states.isEmpty()) run.source = new Track(0, 0);
        return ticks;
    }

    int state() { state(!states.isEmpty()); return run.source.state; }
    int target() { return run.transition == -1 ? -1 : run.target.state; }
    int transition() { return run.transition; }
    int elapsed() { return run.transition == -1 ? -1 : run.elapsed; }
    boolean isFrozen() { return run.frozen != null; }

    long progress(boolean target) {
        state(!states.isEmpty() && !(target && run.transition == -1));
        return target ? run.target.progress : run.source.progress;
    }

    int stateLength(int s) { index(of(s, states)); return (int) length(s, run.values); }

    int partWeight(int s, int clip) {
        index(of(s, states) && of(clip, clips));
        return (int) (long) blend(states.get(s).motion, WHOLE, run.values).getOrDefault(clip, 0L);
    }

    int blocked(int t) {
        index(of(t, transitions));
        for (int[] c : candidates(run)) if (c[0] == t) return obstacle(run, c);
        return 1;
    }

    int poseSize() { return pose(run).size(); }

    int poseKey(int entry) {
        List<Integer> keys = new ArrayList<>(pose(run).keySet());
        index(of(entry, keys));
        return keys.get(entry);
    }

    int poseClip(int entry) { return poseKey(entry) / 1000; }
    int poseTime(int entry) { return poseKey(entry) % 1000; }
    int poseWeight(int entry) { return (int) (long) pose(run).get(poseKey(entry)); }

    int fired() { return run.fired.size(); }

    int event(int event, int what) {
        int kept = Math.min(30, run.fired.size());
        index(in(event, 0, kept - 1));
        argument(in(what, 0, 3));
        return run.fired.get(run.fired.size() - kept + event)[what];
    }

    int foretell(int ticks) {
        argument(in(ticks, 1, 100));
        state(!states.isEmpty());
        Run r = run.copy();
        for (int i = 0; i < ticks; i++) oneTick(r);
        return r.transition == -1 ? r.source.state : r.target.state;
    }

    int ticksTo(int s) {
        index(of(s, states));
        Run r = run.copy();
        for (int n = 0; n <= 100; n++) {
            if (r.transition == -1 && r.source.state == s) return n;
            oneTick(r);
        }
        return -1;
    }

    int steps(int from, int to) {
        index(of(from, states) && of(to, states));
        List<Integer> reached = new ArrayList<>(List.of(from));
        for (int n = 0; n <= states.size(); n++) {
            if (reached.contains(to)) return n;
            List<Integer> next = new ArrayList<>(reached);
            for (Transition t : transitions) if (t.from == -1 || reached.contains(t.from)) next.add(t.to);
            reached = next;
        }
        return -1;
    }

    int keep(int slot) {
        argument(in(slot, 0, 1));
        state(!states.isEmpty());
        images[slot] = run.copy();
        return run.ticks;
    }

    int restore(int slot) {
        argument(in(slot, 0, 1));
        state(images[slot] != null);
        run = images[slot].copy();
        return run.ticks;
    }

    int count(int what) {
        argument(in(what, 0, 7));
        return new int[] {kinds.size(), clips.size(), nodes.size(), states.size(), transitions.size(), run.ticks,
            Math.min(30, run.fired.size()), text.size()}[what];
    }
}
