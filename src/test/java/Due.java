import java.util.function.IntSupplier;

/** What the tests share: it compares answers with those that are due, and readies objects for a set. */
final class Due {
    static final Class<IndexOutOfBoundsException> INDEX = IndexOutOfBoundsException.class;
    static final Class<IllegalArgumentException> ARGUMENT = IllegalArgumentException.class;
    static final Class<IllegalStateException> STATE = IllegalStateException.class;

    private int wrong;

    void is(String what, int got, int want) {
        if (got != want) {
            tell(what + " answered " + got + ", due is " + want);
        }
    }

    void is(String what, boolean got, boolean want) {
        if (got != want) {
            tell(what + " answered " + got + ", due is " + want);
        }
    }

    /** The call throws just this exception, and no question is answered otherwise behind it. */
    void fails(String what, Class<? extends RuntimeException> want, Rotationary x, IntSupplier call) {
        String before = allAnswers(x);
        RuntimeException thrown = null;
        try {
            int got = call.getAsInt();
            tell(what + " answered " + got + ", due is " + want.getSimpleName());
        } catch (RuntimeException e) {
            thrown = e;
        }
        if (thrown != null && thrown.getClass() != want) {
            tell(what + " threw " + thrown.getClass().getSimpleName() + ", due is " + want.getSimpleName());
        }
        if (!allAnswers(x).equals(before)) {
            tell(what + " changed something though it threw");
        }
    }

    void tell(String fault) {
        wrong++;
        System.out.println(fault);
    }

    void end() {
        if (wrong != 0) {
            System.out.println(wrong + " answers are not as due");
            System.exit(1);
        }
    }

    static int one(boolean answer) {
        return answer ? 1 : 0;
    }

    static String allAnswers(Rotationary x) {
        StringBuilder all = new StringBuilder();
        for (int team = 0; team <= 1; team++) {
            all.append(" points ").append(x.points(team)).append(' ').append(x.pointsAnew(team));
            all.append(" sets ").append(x.sets(team));
            all.append(" of ").append(x.of(team, 0)).append(' ').append(x.of(team, 1)).append(" at");
            for (int place = 1; place <= 6; place++) {
                all.append(' ').append(x.at(team, place)).append('/').append(x.atAnew(team, place));
            }
            all.append(" lost");
            for (int rotations = 0; rotations < 6; rotations++) {
                all.append(' ').append(x.lost(team, rotations));
            }
        }
        all.append(" about");
        for (int what = 0; what <= 4; what++) {
            all.append(' ').append(x.about(what));
        }
        return all.toString();
    }

    /** Team 0 has the shirts 1 to 6 in its places 1 to 6, team 1 the shirts 11 to 16; neither has a libero. */
    static void tellOrders(Rotationary x) {
        for (int place = 1; place <= 6; place++) {
            x.line(0, place, place);
            x.line(1, place, 10 + place);
        }
    }

    /** A set with the orders above, the liberos 7 and 17, and team 0 to serve first. */
    static Rotationary set() {
        Rotationary x = new Rotationary();
        beginWithLiberos(x, 0);
        return x;
    }

    static void beginWithLiberos(Rotationary x, int first) {
        tellOrders(x);
        x.libero(0, 7);
        x.libero(1, 17);
        x.begin(first);
    }

    /** A rally in order that the team wins, as the ball falls on the other court. */
    static void wins(Rotationary x, int team) {
        x.serve(x.at(x.about(2), 1));
        x.fall(1 - team);
    }

    static void wins(Rotationary x, int team, int rallies) {
        for (int rally = 0; rally < rallies; rally++) {
            wins(x, team);
        }
    }

    /** A whole set that the team wins by 25, or by 15 if it is the fifth one. */
    static void winsSet(Rotationary x, int team) {
        beginWithLiberos(x, team);
        while (x.about(0) == 1) {
            wins(x, team);
        }
    }

    void order(String when, Rotationary x, int team, int... want) {
        for (int place = 1; place <= 6; place++) {
            is(when + ": at(" + team + ", " + place + ")", x.at(team, place), want[place - 1]);
            is(when + ": atAnew(" + team + ", " + place + ")", x.atAnew(team, place), want[place - 1]);
        }
    }

    void score(String when, Rotationary x, int first, int second) {
        is(when + ": points(0)", x.points(0), first);
        is(when + ": points(1)", x.points(1), second);
        is(when + ": pointsAnew(0)", x.pointsAnew(0), first);
        is(when + ": pointsAnew(1)", x.pointsAnew(1), second);
    }

    void losses(String when, Rotationary x, int team, int... want) {
        for (int rotations = 0; rotations < 6; rotations++) {
            is(when + ": lost(" + team + ", " + rotations + ")", x.lost(team, rotations), want[rotations]);
        }
    }
}
