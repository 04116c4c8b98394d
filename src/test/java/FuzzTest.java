import java.util.Arrays;

/**
 * Carries out the same random calls on the class and on PlainController, and compares all answers.
 * The random numbers are reckoned from a fixed seed, so that each run of the test does the same.
 */
final class FuzzTest {
    private static final int RUNS = 1500, CALLS = 512;
    private static final long NO_INDEX = Long.MIN_VALUE, NO_ARGUMENT = NO_INDEX + 1, NO_STATE = NO_INDEX + 2;
    /** Where the machine threw, which no answer of the other is equal to. */
    private static final long NO_ANSWER = NO_INDEX + 3;
    private static final String[] NAMES = {"addParameter", "set", "value", "addClip", "addEvent", "addClipNode",
        "addLine", "addChild", "addState", "addTransition", "setTiming", "setInterruption", "addCondition",
        "setThreshold", "type", "clearText", "fault", "load", "tick", "reset", "state", "target", "transition",
        "elapsed", "isFrozen", "progress", "stateLength", "partWeight", "blocked", "poseSize", "poseClip",
        "poseTime", "poseWeight", "fired", "event", "foretell", "ticksTo", "steps", "keep", "restore", "count"};

    private long seed;
    private int wrong;
    private int calls;
    private AnimationController real;
    private PlainController plain;
    private StringBuilder told;

    // What the runs must have met, lest the comparison say nothing about it.
    private int frozen, frozenTwice, ended, synced, manyEntries, fullLog, badText, goodText, foretoldOther, refused;

    public static void main(String[] args) {
        FuzzTest test = new FuzzTest();
        for (int run = 0; run < RUNS && test.wrong == 0; run++) {
            test.oneRun(run);
        }
        test.requireMet();
        System.out.println(test.wrong == 0 ? test.calls + " calls agree" : "there are differences");
        if (test.wrong != 0) System.exit(1);
    }

    private int below(int bound) {
        seed = seed * 6364136223846793005L + 1442695040888963407L;
        return (int) Long.remainderUnsigned(seed >>> 24, bound);
    }

    private int from(int low, int high) {
        return low + below(high - low + 1);
    }

    private boolean chance(int percent) {
        return below(100) < percent;
    }

    private void oneRun(int run) {
        seed = run * 7919L + 17;
        for (int i = 0; i < 3; i++) below(2);
        real = new AnimationController();
        plain = new PlainController();
        told = new StringBuilder();
        int before = calls;
        if (run % 8 != 7) build();
        while (calls - before < CALLS && wrong == 0) {
            switch (below(12)) {
                case 0: call(from(0, 14), odd(0)); break;
                case 1: if (chance(25)) typeText(); else setSome(); break;
                case 2: case 3: setSome(); break;
                case 4: case 5: case 6: ticks(); break;
                case 7: case 8: askPose(); break;
                default: askRandom();
            }
        }
        if (wrong != 0) System.out.println("run " + run + ":\n" + told);
    }

    private void build() {
        int parameters = from(2, 8), clips = from(1, 12), lines = from(0, 8), states = from(1, 10);
        for (int i = 0; i < parameters; i++) call(0, i < 2 ? i * 2 : below(3));
        for (int i = 0; i < clips; i++) {
            int length = chance(60) ? from(1, 25) : from(1, 500);
            call(3, length);
            for (int e = below(4); e > 0; e--) call(4, i, below(length), below(100));
        }
        for (int i = 0; i < clips; i++) call(5, i);
        int top = chance(30) ? buildDeepTree() : -1;
        for (int i = 0; i < lines; i++) {
            int line = plain.nodes.size();
            call(6, chance(70) ? 0 : below(parameters));
            for (int c = from(1, 4); c > 0 && line == plain.nodes.size() - 1; c--) call(7, line, below(line), from(-8, 8));
        }
        for (int i = 0; i < states; i++) {
            int motion = top >= 0 && chance(70) ? top : below(plain.nodes.size());
            call(8, motion, chance(50) ? 100 : from(1, 400), below(10) < 7 ? 1 : 0, below(3) == 0 ? 0 : from(0, 3));
        }
        for (int i = from(3, 24); i > 0 && !plain.states.isEmpty(); i--) addTransitionWithAll();
    }

    /** Seven lines that blend eight clips, so that poses become as large as they can; answers the top. */
    private int buildDeepTree() {
        int first = plain.nodes.size(), clips = plain.clips.size();
        if (clips < 8) return -1;
        for (int i = 0; i < 7; i++) call(6, 0);
        for (int i = 0; i < 8; i++) call(7, first + i / 2, i, i % 2 == 0 ? -9 : from(8, 12));
        for (int i = 0; i < 4; i++) call(7, first + 4 + i / 2, first + i, i % 2 == 0 ? -9 : from(8, 12));
        for (int i = 0; i < 2; i++) call(7, first + 6, first + 4 + i, i % 2 == 0 ? -9 : from(8, 12));
        return first + 6;
    }

    private void addTransitionWithAll() {
        int states = plain.states.size();
        int number = plain.transitions.size();
        call(9, chance(20) ? -1 : below(Math.min(states, 4)), below(states), chance(20) ? 0 : from(1, chance(50) ? 8 : 60));
        if (chance(50)) call(10, number, chance(50) ? -1 : below(chance(50) ? 120 : 301), below(100));
        if (chance(85)) call(11, number, from(1, 4), below(3) == 0 ? 1 : 0);
        for (int c = chance(80) ? from(1, 3) : 0; c > 0; c--) {
            int p = below(plain.kinds.size());
            int kind = plain.kinds.get(p);
            if (kind == 0) call(12, number, p, below(4), from(-6, 6));
            else call(12, number, p, 2, kind == 2 ? 1 : below(2));
        }
    }

    private void setSome() {
        if (plain.kinds.isEmpty()) {
            call(0, below(3));
            return;
        }
        int p = below(plain.kinds.size());
        call(1, p, plain.kinds.get(p) == 0 ? from(-10, 10) : below(4) == 0 ? 0 : 1);
    }

    private void ticks() {
        call(18, chance(70) ? 1 : chance(80) ? from(1, 8) : from(0, 101));
        for (int i = 20; i <= 24; i++) if (chance(60)) call(i);
        if (chance(50)) call(25, below(2));
    }

    private void askPose() {
        int size = (int) call(29);
        if (size > 0) {
            int entry = below(size);
            for (int i = 30; i <= 32; i++) call(i, entry);
        }
    }

    private void askRandom() {
        int what = from(19, 40);
        if (what == 19 && chance(90)) return;
        call(what, odd(what));
    }

    /** Arguments that are mostly good, and sometimes just out of range. */
    private int[] odd(int what) {
        int[] a = new int[4];
        for (int i = 0; i < 4; i++) {
            int kind = below(12);
            a[i] = kind == 0 ? -1 : kind == 1 ? from(-200, 600) : kind == 2 ? from(0, 101) : from(0, 9);
        }
        if (what == 26 || what == 36 || what == 37) for (int i = 0; i < 2; i++) a[i] = from(-1, plain.states.size());
        if (what == 27) { a[0] = from(0, plain.states.size()); a[1] = from(0, plain.clips.size()); }
        if (what == 28) a[0] = from(0, plain.transitions.size());
        if (what == 34) { a[0] = from(-1, 30); a[1] = chance(90) ? below(4) : from(-1, 4); }
        if (what == 35) a[0] = from(1, 100);
        if (what == 38 || what == 39) a[0] = chance(95) ? below(2) : from(-1, 2);
        return a;
    }

    // ---- texts

    private void typeText() {
        call(15);
        StringBuilder line = new StringBuilder();
        for (int i = chance(15) ? from(1, 26) : from(1, 4); i > 0; i--) {
            appendTransition(line);
            if (i > 1) line.append(chance(97) ? ';' : ',');
        }
        if (chance(40)) spoil(line);
        for (int i = 0; i < line.length() && i < 151; i++) {
            call(14, line.charAt(i));
            if (chance(5)) call(16);
        }
        boolean bad = call(16) != -1;
        if (bad) badText++; else goodText++;
        if (chance(bad ? 100 : 60)) call(17);
    }

    private void blank(StringBuilder line) {
        if (chance(4)) line.append(' ');
    }

    private void appendTransition(StringBuilder line) {
        blank(line);
        boolean brief = chance(40);
        line.append(chance(20) ? '*' : (char) ('A' + below(plain.states.size() + (chance(4) ? 1 : 0) + (plain.states.isEmpty() ? 1 : 0))));
        blank(line);
        line.append('>');
        blank(line);
        line.append((char) ('A' + below(plain.states.size() + (chance(4) ? 1 : 0) + (plain.states.isEmpty() ? 1 : 0))));
        line.append('/');
        blank(line);
        line.append(chance(4) ? from(58, 1200) : below(61));
        for (int i = brief ? 0 : below(6); i > 0; i--) {
            blank(line);
            switch (below(6)) {
                case 0: line.append('@').append(chance(96) ? below(301) : from(299, 1002)); break;
                case 1: line.append('+').append(chance(96) ? below(100) : from(98, 1002)); break;
                case 2: line.append('!').append(chance(96) ? below(5) : from(3, 11)); break;
                case 3: line.append('o'); break;
                default: appendCondition(line);
            }
        }
        blank(line);
    }

    private void appendCondition(StringBuilder line) {
        line.append('?');
        int p = below(plain.kinds.size() + (chance(5) ? 1 : 0) + (plain.kinds.isEmpty() ? 1 : 0));
        int kind = p < plain.kinds.size() && chance(95) ? plain.kinds.get(p) : below(3);
        blank(line);
        if (kind == 1 && chance(50)) line.append('~');
        blank(line);
        line.append((char) ('a' + p));
        if (kind == 0) {
            blank(line);
            line.append("><=#".charAt(below(4)));
            blank(line);
            if (chance(30)) line.append('-');
            line.append(chance(90) ? below(11) : from(0, 103));
        }
    }

    private void spoil(StringBuilder line) {
        String signs = "AB*>/@+!o?~abc=<#-;0123456789 ";
        for (int i = from(1, 2); i > 0 && line.length() > 0; i--) {
            int at = below(line.length());
            switch (below(4)) {
                case 0: line.deleteCharAt(at); break;
                case 1: line.setLength(at); break;
                case 2: line.insert(at, signs.charAt(below(signs.length()))); break;
                default: line.setCharAt(at, chance(10) ? (char) below(256) : signs.charAt(below(signs.length())));
            }
        }
    }

    // ---- the calls

    private long call(int what, int... given) {
        int[] a = Arrays.copyOf(given, 4);
        calls++;
        long is = 0, due = 0;
        try { is = callReal(what, a); } catch (RuntimeException e) { is = refusal(e); }
        try { due = callPlain(what, a); } catch (IndexOutOfBoundsException e) { due = NO_INDEX; }
        catch (IllegalArgumentException e) { due = NO_ARGUMENT; } catch (IllegalStateException e) { due = NO_STATE; }
        told.append(NAMES[what]).append(Arrays.toString(a)).append(" = ").append(is).append(" due ").append(due).append('\n');
        if (is != due) wrong++;
        meet(what, is);
        return is;
    }

    private static long refusal(RuntimeException thrown) {
        switch (Script.toldOf(thrown)) {
            case "IndexOutOfBoundsException": return NO_INDEX;
            case "IllegalArgumentException": return NO_ARGUMENT;
            case "IllegalStateException": return NO_STATE;
            default: return NO_ANSWER;
        }
    }

    private void meet(int what, long answer) {
        PlainController.Run r = plain.run;
        if (answer <= NO_STATE) refused++;
        if (r.frozen != null) frozen++;
        if (r.interruptions == 2) frozenTwice++;
        if (what == 18 && r.transition == -1 && answer >= 0) ended++;
        if (r.transition != -1 && r.frozen == null) {
            int group = plain.states.get(r.source.state).group;
            if (group != 0 && group == plain.states.get(r.target.state).group) synced++;
        }
        if (what == 29 && answer > 16) manyEntries++;
        if (r.fired.size() > 30) fullLog++;
        if (what == 35 && answer > 0) foretoldOther++;
    }

    private void requireMet() {
        int[] met = {frozen, frozenTwice, ended, synced, manyEntries, fullLog, badText, goodText, foretoldOther, refused};
        for (int m : met) if (m < 20) wrong++;
        if (wrong != 0) System.out.println("met: " + Arrays.toString(met));
    }

    private long callReal(int what, int[] a) {
        AnimationController x = real;
        switch (what) {
            case 0: return x.addParameter(a[0]);
            case 1: return x.set(a[0], a[1]);
            case 2: return x.value(a[0]);
            case 3: return x.addClip(a[0]);
            case 4: return x.addEvent(a[0], a[1], a[2]);
            case 5: return x.addClipNode(a[0]);
            case 6: return x.addLine(a[0]);
            case 7: return x.addChild(a[0], a[1], a[2]);
            case 8: return x.addState(a[0], a[1], a[2] != 0, a[3]);
            case 9: return x.addTransition(a[0], a[1], a[2]);
            case 10: return x.setTiming(a[0], a[1], a[2]);
            case 11: return x.setInterruption(a[0], a[1], a[2] != 0);
            case 12: return x.addCondition(a[0], a[1], a[2], a[3]);
            case 13: return x.setThreshold(a[0]);
            case 14: return x.type(a[0]);
            case 15: return x.clearText();
            case 16: return x.fault();
            case 17: return x.load();
            case 18: return x.tick(a[0]);
            case 19: return x.reset();
            case 20: return x.state();
            case 21: return x.target();
            case 22: return x.transition();
            case 23: return x.elapsed();
            case 24: return x.isFrozen() ? 1 : 0;
            case 25: return x.progress(a[0] != 0);
            case 26: return x.stateLength(a[0]);
            case 27: return x.partWeight(a[0], a[1]);
            case 28: return x.blocked(a[0]);
            case 29: return x.poseSize();
            case 30: return x.poseClip(a[0]);
            case 31: return x.poseTime(a[0]);
            case 32: return x.poseWeight(a[0]);
            case 33: return x.fired();
            case 34: return x.event(a[0], a[1]);
            case 35: return x.foretell(a[0]);
            case 36: return x.ticksTo(a[0]);
            case 37: return x.steps(a[0], a[1]);
            case 38: return x.keep(a[0]);
            case 39: return x.restore(a[0]);
            default: return x.count(a[0]);
        }
    }

    private long callPlain(int what, int[] a) {
        PlainController x = plain;
        switch (what) {
            case 0: return x.addParameter(a[0]);
            case 1: return x.set(a[0], a[1]);
            case 2: return x.value(a[0]);
            case 3: return x.addClip(a[0]);
            case 4: return x.addEvent(a[0], a[1], a[2]);
            case 5: return x.addClipNode(a[0]);
            case 6: return x.addLine(a[0]);
            case 7: return x.addChild(a[0], a[1], a[2]);
            case 8: return x.addState(a[0], a[1], a[2] != 0, a[3]);
            case 9: return x.addTransition(a[0], a[1], a[2]);
            case 10: return x.setTiming(a[0], a[1], a[2]);
            case 11: return x.setInterruption(a[0], a[1], a[2] != 0);
            case 12: return x.addCondition(a[0], a[1], a[2], a[3]);
            case 13: return x.setThreshold(a[0]);
            case 14: return x.type(a[0]);
            case 15: return x.clearText();
            case 16: return x.fault();
            case 17: return x.load();
            case 18: return x.tick(a[0]);
            case 19: return x.reset();
            case 20: return x.state();
            case 21: return x.target();
            case 22: return x.transition();
            case 23: return x.elapsed();
            case 24: return x.isFrozen() ? 1 : 0;
            case 25: return x.progress(a[0] != 0);
            case 26: return x.stateLength(a[0]);
            case 27: return x.partWeight(a[0], a[1]);
            case 28: return x.blocked(a[0]);
            case 29: return x.poseSize();
            case 30: return x.poseClip(a[0]);
            case 31: return x.poseTime(a[0]);
            case 32: return x.poseWeight(a[0]);
            case 33: return x.fired();
            case 34: return x.event(a[0], a[1]);
            case 35: return x.foretell(a[0]);
            case 36: return x.ticksTo(a[0]);
            case 37: return x.steps(a[0], a[1]);
            case 38: return x.keep(a[0]);
            case 39: return x.restore(a[0]);
            default: return x.count(a[0]);
        }
    }
}
