import java.util.ArrayList;
import java.util.List;
import java.util.function.Supplier;
import java.util.function.ToIntFunction;

/**
 * The sentences on exceptions: each call with each argument that is out of its range, and each call out of its time, at
 * each time of a match; which exception is thrown if several apply; and that a call that throws changes nothing, also of
 * what no question tells.
 */
public final class RefusalsTest {
    private static final int NONE = Rotationary.NONE;
    private static final int PASS = Rotationary.PASS, ATTACK = Rotationary.ATTACK, BLOCK = Rotationary.BLOCK;
    private static final int LOWEST = Integer.MIN_VALUE, HIGHEST = Integer.MAX_VALUE;
    private static final Due due = new Due();

    /** A call by its name, so that the same one can be made on many objects. */
    private record Call(String name, ToIntFunction<Rotationary> on) {}

    private record Time(String name, Supplier<Rotationary> object) {}

    public static void main(String[] args) {
        for (Time time : times()) {
            for (Call call : callsOutOfIndex()) {
                refused(time, call, Due.INDEX);
            }
            for (Call call : callsOutOfRange()) {
                refused(time, call, Due.ARGUMENT);
            }
        }
        outOfTime();
        atTheEdges();
        nothingChanges();
        due.end();
    }

    private static void refused(Time time, Call call, Class<? extends RuntimeException> want) {
        Rotationary x = time.object.get();
        due.fails(call.name + ", " + time.name, want, x, () -> call.on.applyAsInt(x));
    }

    // ---- times of a match

    private static List<Time> times() {
        return List.of(
            new Time("new", Rotationary::new),
            new Time("told", RefusalsTest::told),
            new Time("begun", Due::set),
            new Time("in a rally", RefusalsTest::inRally),
            new Time("behind a rally", RefusalsTest::behindRally),
            new Time("behind a set", RefusalsTest::behindSet),
            new Time("behind the match", RefusalsTest::behindMatch));
    }

    private static Rotationary told() {
        Rotationary x = new Rotationary();
        Due.tellOrders(x);
        return x;
    }

    private static Rotationary inRally() {
        Rotationary x = Due.set();
        x.serve(1);
        return x;
    }

    private static Rotationary behindRally() {
        Rotationary x = Due.set();
        Due.wins(x, 0);
        return x;
    }

    private static Rotationary behindSet() {
        Rotationary x = new Rotationary();
        Due.winsSet(x, 0);
        return x;
    }

    private static Rotationary behindMatch() {
        Rotationary x = new Rotationary();
        for (int set = 1; set <= 3; set++) {
            Due.winsSet(x, 0);
        }
        return x;
    }

    // ---- arguments out of their range

    private static List<Call> callsOutOfIndex() {
        List<Call> calls = new ArrayList<>();
        for (int team : new int[] {-1, 2, LOWEST, HIGHEST}) {
            addOfNoTeam(calls, team);
        }
        for (int team : new int[] {-2, 2, LOWEST, HIGHEST}) {
            calls.add(new Call("fall(" + team + ")", x -> x.fall(team)));
        }
        for (int shirt : new int[] {-1, 0, 21, LOWEST, HIGHEST}) {
            addOfNoShirt(calls, shirt);
        }
        for (int place : new int[] {-1, 0, 7, LOWEST, HIGHEST}) {
            calls.add(new Call("line(0, " + place + ", 1)", x -> x.line(0, place, 1)));
            calls.add(new Call("at(1, " + place + ")", x -> x.at(1, place)));
            calls.add(new Call("atAnew(1, " + place + ")", x -> x.atAnew(1, place)));
        }
        return calls;
    }

    private static void addOfNoTeam(List<Call> calls, int team) {
        calls.add(new Call("line(" + team + ", 1, 1)", x -> x.line(team, 1, 1)));
        calls.add(new Call("libero(" + team + ", 8)", x -> x.libero(team, 8)));
        calls.add(new Call("begin(" + team + ")", x -> x.begin(team)));
        calls.add(new Call("touch(" + team + ", 1, PASS)", x -> x.touch(team, 1, PASS, false)));
        calls.add(new Call("touch(" + team + ", 1, 3)", x -> x.touch(team, 1, 3, false)));
        calls.add(new Call("net(" + team + ", true)", x -> Due.one(x.net(team, true))));
        calls.add(new Call("net(" + team + ", false)", x -> Due.one(x.net(team, false))));
        calls.add(new Call("exchange(" + team + ", 1)", x -> Due.one(x.exchange(team, 1))));
        calls.add(new Call("substitute(" + team + ", 1, 8)", x -> x.substitute(team, 1, 8)));
        calls.add(new Call("challenge(" + team + ")", x -> Due.one(x.challenge(team))));
        calls.add(new Call("points(" + team + ")", x -> x.points(team)));
        calls.add(new Call("pointsAnew(" + team + ")", x -> x.pointsAnew(team)));
        calls.add(new Call("sets(" + team + ")", x -> x.sets(team)));
        calls.add(new Call("at(" + team + ", 1)", x -> x.at(team, 1)));
        calls.add(new Call("atAnew(" + team + ", 1)", x -> x.atAnew(team, 1)));
        calls.add(new Call("of(" + team + ", 0)", x -> x.of(team, 0)));
        calls.add(new Call("of(" + team + ", 2)", x -> x.of(team, 2)));
        calls.add(new Call("lost(" + team + ", 0)", x -> x.lost(team, 0)));
        calls.add(new Call("lost(" + team + ", 6)", x -> x.lost(team, 6)));
    }

    private static void addOfNoShirt(List<Call> calls, int shirt) {
        calls.add(new Call("line(1, 1, " + shirt + ")", x -> x.line(1, 1, shirt)));
        calls.add(new Call("libero(1, " + shirt + ")", x -> x.libero(1, shirt)));
        calls.add(new Call("serve(" + shirt + ")", x -> Due.one(x.serve(shirt))));
        calls.add(new Call("touch(1, " + shirt + ", PASS)", x -> x.touch(1, shirt, PASS, false)));
        calls.add(new Call("touch(1, " + shirt + ", -1)", x -> x.touch(1, shirt, -1, false)));
        calls.add(new Call("exchange(0, " + shirt + ")", x -> Due.one(x.exchange(0, shirt))));
        calls.add(new Call("substitute(0, " + shirt + ", 8)", x -> x.substitute(0, shirt, 8)));
        calls.add(new Call("substitute(0, 1, " + shirt + ")", x -> x.substitute(0, 1, shirt)));
    }

    private static List<Call> callsOutOfRange() {
        List<Call> calls = new ArrayList<>();
        for (int kind : new int[] {-1, 3, LOWEST, HIGHEST}) {
            calls.add(new Call("touch(1, 12, " + kind + ")", x -> x.touch(1, 12, kind, false)));
            calls.add(new Call("touch off the court of the kind " + kind, x -> x.touch(1, 20, kind, true)));
        }
        for (int what : new int[] {-1, 5, LOWEST, HIGHEST}) {
            calls.add(new Call("about(" + what + ")", x -> x.about(what)));
        }
        for (int what : new int[] {-1, 2, LOWEST, HIGHEST}) {
            calls.add(new Call("of(1, " + what + ")", x -> x.of(1, what)));
        }
        for (int rotations : new int[] {-1, 6, LOWEST, HIGHEST}) {
            calls.add(new Call("lost(0, " + rotations + ")", x -> x.lost(0, rotations)));
        }
        return calls;
    }

    // ---- calls out of their time

    /** For each time, the calls that are refused then, each with arguments that are good at another time. */
    private static void outOfTime() {
        List<Time> times = times();
        outOfTime(times.get(0), "begin serve touch fall net find exchange substitute challenge");
        outOfTime(times.get(1), "serve touch fall net find exchange substitute challenge");
        outOfTime(times.get(2), "line libero begin touch fall net find challenge");
        outOfTime(times.get(3), "line libero begin serve find exchange substitute challenge");
        outOfTime(times.get(4), "line libero begin touch fall net find");
        outOfTime(times.get(5), "begin serve touch fall net find exchange substitute");
        outOfTime(times.get(6), "line libero begin serve touch fall net find exchange substitute");
    }

    private static void outOfTime(Time time, String names) {
        List<String> late = List.of(names.split(" "));
        for (Call call : goodCalls()) {
            String name = call.name.substring(0, call.name.indexOf('('));
            if (late.contains(name)) {
                refused(time, call, Due.STATE);
            } else if (!call.name.equals("challenge(0)")) {
                // challenge(0) would be of the winner.
                Rotationary x = time.object.get();
                due.is(call.name + " is answered, " + time.name, isAnswered(call, x), true);
            }
        }
    }

    private static List<Call> goodCalls() {
        return List.of(
            new Call("line(0, 1, 9)", x -> x.line(0, 1, 9)),
            new Call("line(1, 6, 20)", x -> x.line(1, 6, 20)),
            new Call("libero(0, 8)", x -> x.libero(0, 8)),
            new Call("libero(1, 18)", x -> x.libero(1, 18)),
            new Call("begin(0)", x -> x.begin(0)),
            new Call("begin(1)", x -> x.begin(1)),
            new Call("serve(1)", x -> Due.one(x.serve(1))),
            new Call("serve(6)", x -> Due.one(x.serve(6))),
            new Call("touch(0, 1, PASS)", x -> x.touch(0, 1, PASS, false)),
            new Call("touch(1, 12, ATTACK)", x -> x.touch(1, 12, ATTACK, true)),
            new Call("fall(0)", x -> x.fall(0)),
            new Call("fall(1)", x -> x.fall(1)),
            new Call("fall(NONE)", x -> x.fall(NONE)),
            new Call("net(0, true)", x -> Due.one(x.net(0, true))),
            new Call("net(1, false)", x -> Due.one(x.net(1, false))),
            new Call("find()", Rotationary::find),
            new Call("exchange(0, 1)", x -> Due.one(x.exchange(0, 1))),
            new Call("exchange(1, 15)", x -> Due.one(x.exchange(1, 15))),
            new Call("substitute(0, 1, 8)", x -> x.substitute(0, 1, 8)),
            new Call("substitute(1, 12, 18)", x -> x.substitute(1, 12, 18)),
            new Call("challenge(0)", x -> Due.one(x.challenge(0))),
            new Call("challenge(1)", x -> Due.one(x.challenge(1))));
    }

    private static boolean isAnswered(Call call, Rotationary x) {
        try {
            call.on.applyAsInt(x);
            return true;
        } catch (RuntimeException e) {
            return false;
        }
    }

    /** Each range to its first and last number, of an argument that is good there. */
    private static void atTheEdges() {
        for (int team = 0; team <= 1; team++) {
            for (int place = 1; place <= 6; place++) {
                for (int shirt : new int[] {1, 20}) {
                    Rotationary x = new Rotationary();
                    String call = "line(" + team + ", " + place + ", " + shirt + ")";
                    due.is(call, x.line(team, place, shirt), NONE);
                    due.is(call + " again", x.line(team, place, 10), shirt);
                    due.is(call + ": the other team", x.at(1 - team, place), NONE);
                }
            }
            for (int shirt : new int[] {1, 20}) {
                Rotationary x = new Rotationary();
                due.is("libero(" + team + ", " + shirt + ")", x.libero(team, shirt), NONE);
                due.is("libero of the other team", x.libero(1 - team, 10), NONE);
                due.is("libero(" + team + ", " + shirt + ") again", x.libero(team, 10), shirt);
            }
        }
        for (int kind : new int[] {PASS, BLOCK}) {
            Rotationary x = inRally();
            due.is("touch of the kind " + kind, x.touch(1, 12, kind, false), 0);
        }
    }

    // ---- a call that throws changes nothing

    /**
     * One run of a set and the begin of the next is done on two objects, on one of them with refused calls of one sort
     * ahead of each call: then both answer alike, also what depends on things that no question tells.
     */
    private static void nothingChanges() {
        List<Call> run = run();
        List<Call> alwaysRefused = callsOutOfIndex();
        alwaysRefused.addAll(callsOutOfRange());
        for (Call wrong : alwaysRefused) {
            compare(run, wrong.name, x -> List.of(wrong));
        }
        for (Call late : goodCalls()) {
            compare(run, late.name, x -> isLate(late, x) ? List.of(late) : List.of());
        }
        compare(run, "a call that cannot be done", RefusalsTest::callsThatCannotBeDone);
        compare(run, "questions", x -> questions());
    }

    private interface Battery {
        List<Call> ahead(Rotationary x);
    }

    private static void compare(List<Call> run, String sort, Battery battery) {
        Rotationary alone = new Rotationary();
        Rotationary disturbed = new Rotationary();
        for (int step = 0; step < run.size(); step++) {
            Call call = run.get(step);
            for (Call wrong : battery.ahead(disturbed)) {
                boolean isQuestion = sort.equals("questions");
                due.is(wrong.name + " is answered ahead of step " + step, isAnswered(wrong, disturbed), isQuestion);
            }
            String when = "step " + step + ", " + call.name + ", behind " + sort;
            due.is(when, call.on.applyAsInt(disturbed), call.on.applyAsInt(alone));
            due.is(when + ": the questions", Due.allAnswers(disturbed).equals(Due.allAnswers(alone)), true);
        }
    }

    private static boolean isLate(Call call, Rotationary x) {
        String name = call.name.substring(0, call.name.indexOf('('));
        boolean isSet = x.about(0) == 1;
        boolean isRally = x.about(1) == 1;
        switch (name) {
            case "line": case "libero": return isSet;
            case "begin": return isSet || x.at(0, 6) == NONE || x.at(1, 6) == NONE;
            case "touch": case "fall": case "net": return !isRally;
            case "challenge": return isRally || call.name.equals("challenge(" + winner(x) + ")");
            default: return !isSet || isRally;
        }
    }

    /** Who won the last rally, or found, if there was one. */
    private static int winner(Rotationary x) {
        return x.about(0) == 1 ? x.about(2) : x.points(0) > x.points(1) ? 0 : 1;
    }

    private static List<Call> callsThatCannotBeDone(Rotationary x) {
        List<Call> calls = new ArrayList<>();
        boolean isBetween = x.about(0) == 1 && x.about(1) == 0;
        for (int team = 0; team <= 1 && isBetween; team++) {
            int of = team;
            int libero = 10 * team + 7;
            int inFront = x.at(team, 3);
            int behind = x.at(team, 6);
            calls.add(new Call("serve off the court", y -> Due.one(y.serve(10))));
            calls.add(new Call("exchange in front", y -> Due.one(y.exchange(of, inFront))));
            calls.add(new Call("exchange of the libero", y -> Due.one(y.exchange(of, libero))));
            calls.add(new Call("exchange off the court", y -> Due.one(y.exchange(of, 10))));
            calls.add(new Call("substitute by one on the court", y -> y.substitute(of, inFront, behind)));
            calls.add(new Call("substitute by the libero", y -> y.substitute(of, inFront, libero)));
            calls.add(new Call("substitute of the libero", y -> y.substitute(of, libero, 19)));
            calls.add(new Call("substitute of one off the court", y -> y.substitute(of, 10, 20)));
        }
        for (int team = 0; team <= 1 && x.about(1) == 1; team++) {
            for (int kind = PASS; kind <= BLOCK; kind++) {
                int of = team;
                int by = kind;
                calls.add(new Call("touch off the court", y -> y.touch(of, 10, by, true)));
            }
        }
        return calls;
    }

    private static List<Call> questions() {
        List<Call> calls = new ArrayList<>();
        for (int team = 0; team <= 1; team++) {
            int of = team;
            calls.add(new Call("points", x -> x.points(of)));
            calls.add(new Call("pointsAnew", x -> x.pointsAnew(of)));
            calls.add(new Call("sets", x -> x.sets(of)));
            calls.add(new Call("at", x -> x.at(of, 1)));
            calls.add(new Call("atAnew", x -> x.atAnew(of, 6)));
            calls.add(new Call("of 0", x -> x.of(of, 0)));
            calls.add(new Call("of 1", x -> x.of(of, 1)));
            calls.add(new Call("lost", x -> x.lost(of, 5)));
        }
        for (int what = 0; what <= 4; what++) {
            int asked = what;
            calls.add(new Call("about", x -> x.about(asked)));
        }
        return calls;
    }

    /** A set in which each thing that no question tells comes to matter, and the begin of the next one. */
    private static List<Call> run() {
        List<Call> run = new ArrayList<>();
        tell(run);
        fourthAndTwice(run);
        exchangesAndPairs(run);
        challenges(run);
        services(run);
        endOfTheSet(run);
        tell(run);
        add(run, "exchange with the libero told anew", x -> Due.one(x.exchange(0, 6)), 1);
        add(run, "exchange of the other team", x -> Due.one(x.exchange(1, 16)), 1);
        return run;
    }

    /** What is due is looked at as well, lest the run itself be another one than it seems. */
    private static void add(List<Call> run, String name, ToIntFunction<Rotationary> call, int want) {
        run.add(new Call(name, x -> {
            int got = call.applyAsInt(x);
            due.is("in the run: " + name, got, want);
            return got;
        }));
    }

    /** A call of the run itself that is refused, so that it is seen when a refused call lets it through. */
    private static void addRefused(List<Call> run, String name, ToIntFunction<Rotationary> call) {
        add(run, name, x -> {
            try {
                call.applyAsInt(x);
                return 0;
            } catch (IllegalStateException e) {
                return 1;
            }
        }, 1);
    }

    private static void tell(List<Call> run) {
        for (int team = 0; team <= 1; team++) {
            int of = team;
            add(run, "libero", x -> x.libero(of, 10 * of + 7), NONE);
            for (int place = 1; place <= 6; place++) {
                int in = place;
                add(run, "line", x -> x.line(of, in, 10 * of + in), NONE);
            }
        }
        run.add(new Call("begin", x -> x.begin(0)));
    }

    private static void touch(List<Call> run, int team, int shirt, int kind, int want) {
        add(run, "touch by " + shirt, x -> x.touch(team, shirt, kind, false), want);
    }

    private static void serve(List<Call> run, int shirt, boolean isInOrder) {
        add(run, "serve by " + shirt, x -> Due.one(x.serve(shirt)), Due.one(isInOrder));
    }

    private static void fall(List<Call> run, int team) {
        add(run, "fall on " + team, x -> x.fall(team), 1 - team);
    }

    /** Team 0 serves by 1, and wins twice: 2 to 0. */
    private static void fourthAndTwice(List<Call> run) {
        serve(run, 1, true);
        touch(run, 1, 12, PASS, 0);
        touch(run, 1, 13, PASS, 0);
        touch(run, 1, 14, PASS, 0);
        touch(run, 1, 15, PASS, Rotationary.FOURTH);
        serve(run, 1, true);
        touch(run, 1, 12, BLOCK, 0);
        touch(run, 1, 12, PASS, 0);
        touch(run, 1, 12, PASS, Rotationary.TWICE);
    }

    /** Exchanges and pairs of team 0, with two rallies that it wins between: 4 to 0. */
    private static void exchangesAndPairs(List<Call> run) {
        add(run, "exchange", x -> Due.one(x.exchange(0, 6)), 1);
        addRefused(run, "exchange twice", x -> Due.one(x.exchange(0, 6)));
        add(run, "substitute", x -> x.substitute(0, 4, 9), 1);
        addRefused(run, "substitute of a pair by a third", x -> x.substitute(0, 9, 18));
        serve(run, 1, true);
        touch(run, 1, 12, PASS, 0);
        touch(run, 0, 9, PASS, 0);
        fall(run, 1);
        add(run, "exchange back", x -> Due.one(x.exchange(0, 6)), 0);
        add(run, "substitute back", x -> x.substitute(0, 9, 4), 2);
        addRefused(run, "substitute once more", x -> x.substitute(0, 4, 9));
        addRefused(run, "find with all in order", Rotationary::find);
        serve(run, 1, true);
        touch(run, 1, 12, PASS, 0);
        touch(run, 1, 13, PASS, 0);
        add(run, "out", x -> x.fall(NONE), 0);
        add(run, "exchange once more", x -> Due.one(x.exchange(0, 5)), 1);
        add(run, "substitute by shirts that were refused with others", x -> x.substitute(0, 3, 19), 3);
    }

    /** One in vain and one that turns, of team 1: 5 to 1, and team 1 serves by 12. */
    private static void challenges(List<Call> run) {
        serve(run, 1, true);
        fall(run, 1);
        add(run, "challenge in vain", x -> Due.one(x.challenge(1)), 0);
        serve(run, 1, true);
        add(run, "net", x -> Due.one(x.net(0, false)), 0);
        touch(run, 1, 12, PASS, 0);
        fall(run, 1);
        add(run, "challenge that turns", x -> Due.one(x.challenge(1)), 1);
        addRefused(run, "challenge of the challenge", x -> Due.one(x.challenge(0)));
    }

    /** Team 1 serves out of order, team 0 challenges it in vain, but finds it, and serves by 2: 7 to 1. */
    private static void services(List<Call> run) {
        add(run, "exchange of the other team", x -> Due.one(x.exchange(1, 12)), 1);
        addRefused(run, "exchange twice of the other team", x -> Due.one(x.exchange(1, 12)));
        serve(run, 13, false);
        fall(run, 0);
        add(run, "challenge in vain of team 0", x -> Due.one(x.challenge(0)), 0);
        serve(run, 17, true);
        touch(run, 0, 2, PASS, 0);
        fall(run, 0);
        add(run, "find", Rotationary::find, 2);
        add(run, "exchange back of the other team", x -> Due.one(x.exchange(1, 12)), 0);
        serve(run, 2, true);
        fall(run, 1);
    }

    private static void endOfTheSet(List<Call> run) {
        for (int point = 0; point < 17; point++) {
            serve(run, 2, true);
            fall(run, 1);
        }
        serve(run, 2, true);
        add(run, "net of the other team", x -> Due.one(x.net(1, false)), 0);
        add(run, "net of the own team", x -> Due.one(x.net(0, false)), 0);
        touch(run, 1, 13, ATTACK, 0);
        fall(run, 1);
        add(run, "challenge that turns the end of the set", x -> Due.one(x.challenge(1)), 1);
        add(run, "substitute behind that", x -> x.substitute(1, 13, 3), 1);
        serve(run, 3, true);
        fall(run, 1);
    }
}
