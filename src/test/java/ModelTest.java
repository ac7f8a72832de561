import java.util.ArrayDeque;
import java.util.Deque;
import java.util.function.IntSupplier;

/** Runs of 512 calls, always the same ones, each answered alike by the program and by the Model, and all questions, too. */
public final class ModelTest {
    private static final int RUNS = 1200, CALLS = 512;
    private static final int[] SHIRTS_AT_THE_EDGES = {-1, 0, 21, Integer.MAX_VALUE, Integer.MIN_VALUE};
    // How often each call is answered, and refused, so that a run that tests little is seen.
    private static final int[] answered = new int[12], refused = new int[12];
    private static int turned, found, setsEnded, matchesEnded, setEndsTurned;

    private final Rotationary program = new Rotationary();
    private final Model model = new Model();
    private final Due due;
    private final Deque<String> lastCalls = new ArrayDeque<>();
    private final int temper;
    private long seed;

    private ModelTest(Due due, int run) {
        this.due = due;
        this.seed = run * 7919L + 13;
        this.temper = run % 6;
    }

    public static void main(String[] args) {
        Due due = new Due();
        for (int run = 0; run < RUNS; run++) {
            if (!new ModelTest(due, run).runs()) {
                System.out.println("in run " + run);
                break;
            }
        }
        for (int call = 0; call < answered.length; call++) {
            due.is("too few answered of the call " + call, answered[call] < 500, false);
            due.is("too few refused of the call " + call, refused[call] < 500, false);
        }
        due.is("too few turned", turned < 500, false);
        due.is("too few found", found < 500, false);
        due.is("too few sets", setsEnded < 500, false);
        due.is("too few matches", matchesEnded < 100, false);
        due.is("too few ends of sets turned", setEndsTurned < 40, false);
        due.end();
    }

    private boolean runs() {
        boolean isEnd = false;
        for (int call = 0; call < CALLS; call++) {
            int sets = program.sets(0) + program.sets(1);
            boolean isAlike = isEnd && oneOf(2) ? challenge(below(2)) : step();
            if (!isAlike) {
                System.out.println("behind " + lastCalls);
                return false;
            }
            int setsNow = program.sets(0) + program.sets(1);
            isEnd = setsNow > sets;
            setsEnded += setsNow > sets ? 1 : 0;
            setEndsTurned += setsNow < sets ? 1 : 0;
        }
        matchesEnded += program.sets(0) == 3 || program.sets(1) == 3 ? 1 : 0;
        return true;
    }

    private int below(int bound) {
        seed = seed * 6364136223846793005L + 1442695040888963407L;
        return (int) ((seed >>> 33) % bound);
    }

    private boolean oneOf(int times) {
        return below(times) == 0;
    }

    private int team() {
        return oneOf(60) ? SHIRTS_AT_THE_EDGES[below(5)] == 0 ? 2 : SHIRTS_AT_THE_EDGES[below(5)] : below(2);
    }

    /** Mostly a shirt on the court of the team, or one of those that were told. */
    private int shirt(int team) {
        if (oneOf(60)) {
            return SHIRTS_AT_THE_EDGES[below(5)];
        }
        if (oneOf(6) || team < 0 || team > 1) {
            return 1 + below(20);
        }
        int shirt = program.at(team, 1 + below(6));
        return shirt < 1 ? 1 + below(9) : shirt;
    }

    private boolean step() {
        if (oneOf(40)) {
            return any(below(12));
        }
        if (program.about(0) == 0) {
            return aheadOfSet();
        }
        return program.about(1) == 1 ? inRally() : betweenRallies();
    }

    private boolean aheadOfSet() {
        int team = below(2);
        if (program.about(3) != 0 && oneOf(12)) {
            return challenge(team);
        }
        if (oneOf(30)) {
            return begin(team());
        }
        if (oneOf(8)) {
            int libero = oneOf(4) ? shirt(team) : 7 + below(2);
            return libero(team, libero);
        }
        for (int place = 1; place <= 6; place++) {
            for (int t = 0; t <= 1; t++) {
                if (program.at(t, place) == -1) {
                    return line(t, place, oneOf(20) ? 1 + below(20) : place);
                }
            }
        }
        if (oneOf(2)) {
            return begin(team);
        }
        int place = 1 + below(6);
        return line(team, place, oneOf(4) ? 1 + below(20) : place);
    }

    private boolean inRally() {
        if (oneOf(temper == 1 || temper == 5 ? 2 : 6)) {
            return net(below(2), oneOf(8));
        }
        boolean isLate = program.points(0) > 22 || program.points(1) > 22;
        if (isLate && oneOf(3)) {
            return net(below(2), false);
        }
        if (temper >= 3 || oneOf(4)) {
            int loser = temper == 3 ? below(2) : temper == 4 && !oneOf(5) ? 1 : below(3) - 1;
            return fall(loser);
        }
        int team = below(2);
        return touch(team, shirt(team), oneOf(30) ? below(7) - 2 : below(3), oneOf(3));
    }

    private boolean betweenRallies() {
        int team = below(2);
        if (oneOf(temper == 1 ? 2 : 6)) {
            return challenge(team);
        }
        if (oneOf(temper == 2 ? 3 : 12)) {
            return find();
        }
        if (oneOf(temper == 0 ? 3 : 8)) {
            return oneOf(3) ? exchange(team, 1 + below(9)) : exchange(team, shirt(team));
        }
        if (oneOf(temper == 0 ? 3 : 10)) {
            return substitute(team, shirt(team), oneOf(3) ? shirt(team) : 1 + below(12));
        }
        int server = program.about(2);
        return serve(oneOf(temper == 2 ? 3 : 8) ? shirt(server) : program.at(server, 1));
    }

    private boolean any(int call) {
        int team = team();
        switch (call) {
            case 0: return line(team, oneOf(10) ? 7 * below(2) : 1 + below(6), shirt(team));
            case 1: return libero(team, shirt(team));
            case 2: return begin(team);
            case 3: return serve(shirt(below(2)));
            case 4: return touch(team, shirt(team), below(5) - 1, oneOf(2));
            case 5: return fall(oneOf(3) ? -1 : team);
            case 6: return net(team, oneOf(2));
            case 7: return find();
            case 8: return exchange(team, shirt(team));
            case 9: return substitute(team, shirt(team), shirt(team));
            case 10: return wrongQuestion(team);
            default: return challenge(team);
        }
    }

    private boolean line(int team, int place, int shirt) {
        return compare(0, "line(" + team + ", " + place + ", " + shirt + ")", () -> program.line(team, place, shirt), () -> model.line(team, place, shirt));
    }

    private boolean libero(int team, int shirt) {
        return compare(1, "libero(" + team + ", " + shirt + ")", () -> program.libero(team, shirt), () -> model.libero(team, shirt));
    }

    private boolean begin(int team) {
        return compare(2, "begin(" + team + ")", () -> program.begin(team), () -> model.begin(team));
    }

    private boolean serve(int shirt) {
        return compare(3, "serve(" + shirt + ")", () -> Due.one(program.serve(shirt)), () -> Due.one(model.serve(shirt)));
    }

    private boolean touch(int team, int shirt, int kind, boolean inFront) {
        return compare(4, "touch(" + team + ", " + shirt + ", " + kind + ", " + inFront + ")",
            () -> program.touch(team, shirt, kind, inFront), () -> model.touch(team, shirt, kind, inFront));
    }

    private boolean fall(int team) {
        return compare(5, "fall(" + team + ")", () -> program.fall(team), () -> model.fall(team));
    }

    private boolean net(int team, boolean isSeen) {
        return compare(6, "net(" + team + ", " + isSeen + ")", () -> Due.one(program.net(team, isSeen)), () -> Due.one(model.net(team, isSeen)));
    }

    private boolean find() {
        int before = answered[7];
        boolean isAlike = compare(7, "find()", program::find, model::find);
        found += answered[7] - before;
        return isAlike;
    }

    private boolean exchange(int team, int shirt) {
        return compare(8, "exchange(" + team + ", " + shirt + ")", () -> Due.one(program.exchange(team, shirt)), () -> Due.one(model.exchange(team, shirt)));
    }

    private boolean substitute(int team, int goes, int comes) {
        return compare(9, "substitute(" + team + ", " + goes + ", " + comes + ")",
            () -> program.substitute(team, goes, comes), () -> model.substitute(team, goes, comes));
    }

    private boolean challenge(int team) {
        return compare(11, "challenge(" + team + ")", () -> {
            boolean isTurned = program.challenge(team);
            turned += Due.one(isTurned);
            return Due.one(isTurned);
        }, () -> Due.one(model.challenge(team)));
    }

    private boolean wrongQuestion(int team) {
        int number = below(9) - 1;
        boolean isAlike = compare(10, "at(" + team + ", " + number + ")", () -> program.at(team, number), () -> model.at(team, number));
        isAlike &= compare(10, "atAnew(" + team + ", " + number + ")", () -> program.atAnew(team, number), () -> model.atAnew(team, number));
        isAlike &= compare(10, "about(" + number + ")", () -> program.about(number), () -> model.about(number));
        isAlike &= compare(10, "of(" + team + ", " + number + ")", () -> program.of(team, number), () -> model.of(team, number));
        isAlike &= compare(10, "lost(" + team + ", " + number + ")", () -> program.lost(team, number), () -> model.lost(team, number));
        isAlike &= compare(10, "points(" + team + ")", () -> program.points(team), () -> model.points(team));
        isAlike &= compare(10, "pointsAnew(" + team + ")", () -> program.pointsAnew(team), () -> model.points(team));
        return isAlike & compare(10, "sets(" + team + ")", () -> program.sets(team), () -> model.sets(team));
    }

    private boolean compare(int number, String call, IntSupplier ofProgram, IntSupplier ofModel) {
        lastCalls.add(call);
        if (lastCalls.size() > 60) {
            lastCalls.remove();
        }
        String got;
        String want;
        try {
            got = "" + ofProgram.getAsInt();
            answered[number]++;
        } catch (RuntimeException e) {
            got = e.getClass().getSimpleName();
            refused[number]++;
        }
        try {
            want = "" + ofModel.getAsInt();
        } catch (Model.Wrong e) {
            want = e.due.getSimpleName();
        }
        if (!got.equals(want)) {
            due.tell(call + " answered " + got + ", due is " + want);
            return false;
        }
        return compareQuestions(call);
    }

    private boolean compareQuestions(String call) {
        String got = Due.allAnswers(program);
        String want = allAnswersOfModel();
        if (!got.equals(want)) {
            due.tell("behind " + call + " the questions answered\n" + got + ", due is\n" + want);
        }
        return got.equals(want);
    }

    private String allAnswersOfModel() {
        StringBuilder all = new StringBuilder();
        for (int team = 0; team <= 1; team++) {
            all.append(" points ").append(model.points(team)).append(' ').append(model.points(team));
            all.append(" sets ").append(model.sets(team));
            all.append(" of ").append(model.of(team, 0)).append(' ').append(model.of(team, 1)).append(" at");
            for (int place = 1; place <= 6; place++) {
                all.append(' ').append(model.at(team, place)).append('/').append(model.atAnew(team, place));
            }
            all.append(" lost");
            for (int rotations = 0; rotations < 6; rotations++) {
                all.append(' ').append(model.lost(team, rotations));
            }
        }
        all.append(" about");
        for (int what = 0; what <= 4; what++) {
            all.append(' ').append(model.about(what));
        }
        return all.toString();
    }
}
