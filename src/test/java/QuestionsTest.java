/** Promises 13 to 20: points, pointsAnew, sets, at, atAnew, about, of, lost. */
public final class QuestionsTest {
    private static final int NONE = Rotationary.NONE;
    private static final Due due = new Due();

    public static void main(String[] args) {
        wrongArguments(new Rotationary());
        wrongArguments(Due.set());
        Rotationary rally = Due.set();
        rally.serve(2);
        wrongArguments(rally);
        pointsOfASet();
        setsBySets();
        setsByTwoPoints();
        fifthSet();
        orders();
        about();
        of();
        lost();
        longTurns();
        due.end();
    }

    private static void wrongArguments(Rotationary x) {
        for (int team : new int[] {-1, 2, Integer.MIN_VALUE, Integer.MAX_VALUE}) {
            due.fails("points", Due.INDEX, x, () -> x.points(team));
            due.fails("pointsAnew", Due.INDEX, x, () -> x.pointsAnew(team));
            due.fails("sets", Due.INDEX, x, () -> x.sets(team));
            due.fails("at", Due.INDEX, x, () -> x.at(team, 1));
            due.fails("atAnew", Due.INDEX, x, () -> x.atAnew(team, 1));
            due.fails("of", Due.INDEX, x, () -> x.of(team, 0));
            due.fails("of, both wrong", Due.INDEX, x, () -> x.of(team, 2));
            due.fails("lost", Due.INDEX, x, () -> x.lost(team, 0));
            due.fails("lost, both wrong", Due.INDEX, x, () -> x.lost(team, 6));
        }
        for (int place : new int[] {-1, 0, 7, Integer.MIN_VALUE, Integer.MAX_VALUE}) {
            due.fails("at in no place", Due.INDEX, x, () -> x.at(0, place));
            due.fails("atAnew in no place", Due.INDEX, x, () -> x.atAnew(1, place));
        }
        for (int what : new int[] {-1, 5, Integer.MIN_VALUE, Integer.MAX_VALUE}) {
            due.fails("about", Due.ARGUMENT, x, () -> x.about(what));
        }
        for (int what : new int[] {-1, 2, Integer.MIN_VALUE, Integer.MAX_VALUE}) {
            due.fails("of", Due.ARGUMENT, x, () -> x.of(1, what));
        }
        for (int rotations : new int[] {-1, 6, Integer.MIN_VALUE, Integer.MAX_VALUE}) {
            due.fails("lost", Due.ARGUMENT, x, () -> x.lost(1, rotations));
        }
    }

    private static void pointsOfASet() {
        Rotationary x = Due.set();
        due.score("begun", x, 0, 0);
        Due.wins(x, 0, 3);
        due.score("served", x, 3, 0);
        Due.wins(x, 1, 2);
        due.score("not served", x, 3, 2);
        x.serve(12);
        due.score("in a rally", x, 3, 2);
        x.fall(0);
        Due.wins(x, 1, 22);
        due.score("the last set", x, 3, 25);
        Due.tellOrders(x);
        due.score("the last set, as orders are told", x, 3, 25);
        x.begin(0);
        due.score("the next set", x, 0, 0);

        Rotationary y = Due.set();
        Due.wins(y, 0, 24);
        y.serve(2);
        y.fall(1);
        due.score("a set that is won out of order", y, 25, 0);
        Due.beginWithLiberos(y, 0);
        y.serve(2);
        y.fall(1);
        y.find();
        due.score("taken back in the next set", y, 0, 1);
    }

    private static void setsBySets() {
        Rotationary x = new Rotationary();
        int[] winners = {0, 1, 1, 1};
        int[] sets = {0, 0};
        for (int winner : winners) {
            Due.winsSet(x, winner);
            sets[winner]++;
            due.is("sets(0)", x.sets(0), sets[0]);
            due.is("sets(1)", x.sets(1), sets[1]);
            due.score("a set by 25", x, winner == 0 ? 25 : 0, winner == 1 ? 25 : 0);
        }
        due.fails("the match is over", Due.STATE, x, () -> x.line(0, 1, 1));
    }

    private static void setsByTwoPoints() {
        Rotationary x = Due.set();
        Due.wins(x, 0, 24);
        Due.wins(x, 1, 24);
        Due.wins(x, 0);
        due.is("25 to 24 is no set", x.sets(0), 0);
        due.is("25 to 24: the set goes on", x.about(0), 1);
        Due.wins(x, 1, 2);
        due.is("25 to 26 is no set", x.sets(1), 0);
        Due.wins(x, 0, 2);
        due.score("27 to 26", x, 27, 26);
        due.is("27 to 26 is no set", x.about(0), 1);
        Due.wins(x, 0);
        due.is("28 to 26 is a set", x.sets(0), 1);
        due.is("28 to 26: no set goes on", x.about(0), 0);
        due.score("28 to 26", x, 28, 26);

        Rotationary y = Due.set();
        Due.wins(y, 1, 23);
        Due.wins(y, 0, 24);
        due.is("24 to 23 is no set", y.about(0), 1);
        Due.wins(y, 0);
        due.is("25 to 23 is a set", y.sets(0), 1);
    }

    private static void fifthSet() {
        Rotationary x = new Rotationary();
        for (int set = 1; set <= 4; set++) {
            Due.winsSet(x, set % 2);
        }
        Due.beginWithLiberos(x, 0);
        Due.wins(x, 0, 14);
        Due.wins(x, 1, 14);
        due.is("14 all", x.about(0), 1);
        Due.wins(x, 1);
        due.is("14 to 15 is no set", x.about(0), 1);
        Due.wins(x, 1);
        due.is("14 to 16 is a set", x.sets(1), 3);
        due.score("14 to 16", x, 14, 16);
        due.is("the match is over", x.about(0), 0);

        Rotationary y = new Rotationary();
        for (int set = 1; set <= 4; set++) {
            Due.winsSet(y, set % 2);
        }
        Due.beginWithLiberos(y, 0);
        Due.wins(y, 0, 13);
        due.score("the fifth set", y, 13, 0);
        Due.wins(y, 0);
        due.is("14 to 0 is no set", y.about(0), 1);
        Due.wins(y, 0);
        due.is("15 to 0 is a set", y.sets(0), 3);
        due.score("the fifth set", y, 15, 0);
    }

    private static void orders() {
        Rotationary x = new Rotationary();
        x.line(0, 3, 9);
        due.is("at ahead of a set", x.at(0, 3), 9);
        due.is("atAnew ahead of a set", x.atAnew(0, 3), NONE);
        Due.beginWithLiberos(x, 1);
        due.order("begun", x, 0, 1, 2, 3, 4, 5, 6);
        x.exchange(0, 1);
        x.substitute(0, 2, 8);
        due.order("told", x, 0, 7, 8, 3, 4, 5, 6);
        x.serve(11);
        due.order("in a rally", x, 0, 7, 8, 3, 4, 5, 6);
        x.fall(1);
        due.order("rotated", x, 0, 8, 3, 4, 5, 6, 7);
        Due.wins(x, 0, 24);
        due.order("behind a set", x, 0, NONE, NONE, NONE, NONE, NONE, NONE);
        due.order("behind a set", x, 1, NONE, NONE, NONE, NONE, NONE, NONE);
        x.line(1, 1, 5);
        due.is("at ahead of the next set", x.at(1, 1), 5);
        due.is("atAnew ahead of the next set", x.atAnew(1, 1), NONE);
        due.score("ahead of the next set", x, 25, 0);
    }

    private static void about() {
        Rotationary x = Due.set();
        state("begun", x, 1, 0, 0, 0, NONE);
        x.serve(4);
        state("served", x, 1, 1, 0, 0, 4);
        x.touch(1, 12, Rotationary.PASS, false);
        state("touched", x, 1, 1, 0, 0, 12);
        x.net(0, false);
        state("net not seen", x, 1, 1, 0, 0, 12);
        x.fall(NONE);
        state("out", x, 1, 0, 0, Rotationary.OUT, NONE);
        x.serve(1);
        state("served again", x, 1, 1, 0, Rotationary.OUT, 1);
        x.touch(1, 12, Rotationary.PASS, false);
        x.touch(1, 12, Rotationary.PASS, false);
        state("twice", x, 1, 0, 0, Rotationary.TWICE, NONE);
        x.find();
        state("found", x, 1, 0, 1, Rotationary.ORDER, NONE);
        Due.wins(x, 1, 24);
        state("behind a set", x, 0, 0, NONE, Rotationary.FALL, NONE);
        Due.tellOrders(x);
        x.begin(1);
        state("the next set", x, 1, 0, 1, 0, NONE);
    }

    private static void state(String when, Rotationary x, int... want) {
        for (int what = 0; what <= 4; what++) {
            due.is(when + ": about(" + what + ")", x.about(what), want[what]);
        }
    }

    private static void of() {
        Rotationary x = Due.set();
        due.is("begun: substitutions", x.of(0, 0), 0);
        due.is("begun: challenges", x.of(0, 1), 2);
        x.substitute(1, 11, 1);
        Due.wins(x, 1);
        x.challenge(0);
        due.is("substitutions of team 0", x.of(0, 0), 0);
        due.is("substitutions of team 1", x.of(1, 0), 1);
        due.is("challenges of team 0", x.of(0, 1), 1);
        due.is("challenges of team 1", x.of(1, 1), 2);
        Due.wins(x, 1, 24);
        due.is("the last set: substitutions", x.of(1, 0), 1);
        due.is("the last set: challenges", x.of(0, 1), 1);
        Due.tellOrders(x);
        due.is("ahead of the next set: substitutions", x.of(1, 0), 1);
        due.is("ahead of the next set: challenges", x.of(0, 1), 1);
        x.begin(0);
        due.is("the next set: substitutions", x.of(1, 0), 0);
        due.is("the next set: challenges", x.of(0, 1), 2);
    }

    private static void lost() {
        Rotationary x = Due.set();
        Due.wins(x, 0, 2);
        due.losses("lost by who did not serve", x, 1, 2, 0, 0, 0, 0, 0);
        Due.wins(x, 1, 3);
        due.losses("lost by who served", x, 0, 3, 0, 0, 0, 0, 0);
        Due.wins(x, 0);
        due.losses("lost behind a rotation", x, 1, 2, 1, 0, 0, 0, 0);
        for (int turn = 0; turn < 6; turn++) {
            Due.wins(x, 1);
            Due.wins(x, 0);
        }
        due.losses("all round", x, 0, 4, 1, 1, 1, 1, 1);
        due.losses("all round", x, 1, 3, 2, 1, 1, 1, 1);
        Due.wins(x, 0, 16);
        due.losses("the last set", x, 1, 3, 18, 1, 1, 1, 1);
        Due.tellOrders(x);
        due.losses("the last set, as orders are told", x, 1, 3, 18, 1, 1, 1, 1);
        x.begin(0);
        due.losses("the next set", x, 0, 0, 0, 0, 0, 0, 0);
        due.losses("the next set", x, 1, 0, 0, 0, 0, 0, 0);
    }

    /** A set without an end, as long as an object is used, and longer: nothing but the document's exceptions comes out. */
    private static void longTurns() {
        Rotationary x = new Rotationary();
        Due.tellOrders(x);
        x.begin(0);
        Due.wins(x, 0, 24);
        int calls = 13 + 48;
        Due.wins(x, 1, 23);
        calls += 46;
        int rallies = 0;
        while (calls + 2 <= 512) {
            x.serve(x.at(x.about(2), 1));
            x.fall(rallies % 2);
            calls += 2;
            rallies++;
        }
        int ofFirst = 24 + rallies / 2;
        int ofSecond = 23 + (rallies + 1) / 2;
        due.score("as long as an object is used", x, ofFirst, ofSecond);
        for (int place = 1; place <= 6; place++) {
            due.is("order", x.atAnew(0, place), x.at(0, place));
            due.is("order", x.atAnew(1, place), x.at(1, place));
        }
        for (int call = 0; call < 2000; call++) {
            Due.wins(x, x.points(0) <= x.points(1) ? 0 : 1);
            x.pointsAnew(0);
            x.atAnew(0, 1);
            x.lost(0, 0);
        }
    }
}
