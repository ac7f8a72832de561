/** Promises 1 to 4: a new object, line, libero, begin. */
public final class OrdersTest {
    private static final int NONE = Rotationary.NONE;
    private static final Due due = new Due();

    public static void main(String[] args) {
        newObject();
        line();
        libero();
        begin();
        orderThatIsNotAsTold();
        whileASetGoesOn();
        behindASet();
        behindTheMatch();
        due.end();
    }

    private static void newObject() {
        Rotationary x = new Rotationary();
        for (int team = 0; team <= 1; team++) {
            due.order("new", x, team, NONE, NONE, NONE, NONE, NONE, NONE);
            due.losses("new", x, team, 0, 0, 0, 0, 0, 0);
            due.is("new: sets", x.sets(team), 0);
            due.is("new: substitutions", x.of(team, 0), 0);
            due.is("new: challenges", x.of(team, 1), 2);
        }
        due.score("new", x, 0, 0);
        due.is("new: about(0)", x.about(0), 0);
        due.is("new: about(1)", x.about(1), 0);
        due.is("new: about(2)", x.about(2), NONE);
        due.is("new: about(3)", x.about(3), 0);
        due.is("new: about(4)", x.about(4), NONE);
    }

    private static void line() {
        Rotationary x = new Rotationary();
        due.is("line first", x.line(0, 1, 20), NONE);
        due.is("line again", x.line(0, 1, 1), 20);
        due.is("line once more", x.line(0, 1, 1), 1);
        due.is("line of the other team", x.line(1, 1, 2), NONE);
        due.is("line of the same shirt elsewhere", x.line(0, 6, 1), NONE);
        due.is("at what was told", x.at(0, 1), 1);
        due.is("at what was told last", x.at(0, 6), 1);
        due.is("at the other team", x.at(1, 1), 2);
        due.is("at what was not told", x.at(1, 6), NONE);
        due.is("atAnew ahead of a set", x.atAnew(0, 1), NONE);
        for (int team : new int[] {-1, 2, Integer.MIN_VALUE, Integer.MAX_VALUE}) {
            due.fails("line of no team", Due.INDEX, x, () -> x.line(team, 1, 1));
        }
        for (int place : new int[] {-1, 0, 7, Integer.MIN_VALUE, Integer.MAX_VALUE}) {
            due.fails("line in no place", Due.INDEX, x, () -> x.line(0, place, 1));
        }
        for (int shirt : new int[] {-1, 0, 21, Integer.MIN_VALUE, Integer.MAX_VALUE}) {
            due.fails("line of no shirt", Due.INDEX, x, () -> x.line(0, 1, shirt));
        }
    }

    private static void libero() {
        Rotationary x = new Rotationary();
        due.is("libero first", x.libero(0, 1), NONE);
        due.is("libero again", x.libero(0, 20), 1);
        due.is("libero of the other team", x.libero(1, 20), NONE);
        due.is("libero told once more", x.libero(0, 2), 20);
        due.is("a libero is in no place", x.at(0, 1), NONE);
        for (int team : new int[] {-1, 2}) {
            due.fails("libero of no team", Due.INDEX, x, () -> x.libero(team, 1));
        }
        for (int shirt : new int[] {-1, 0, 21}) {
            due.fails("libero of no shirt", Due.INDEX, x, () -> x.libero(0, shirt));
        }
        due.is("libero behind wrong calls", x.libero(0, 3), 2);
    }

    private static void begin() {
        for (int team = 0; team <= 1; team++) {
            Rotationary x = new Rotationary();
            Due.tellOrders(x);
            due.fails("begin with no team", Due.INDEX, x, () -> x.begin(2));
            due.fails("begin with NONE", Due.INDEX, x, () -> x.begin(NONE));
            due.is("begin without liberos", x.begin(team), 1);
            due.is("who serves first", x.about(2), team);
            due.is("a set goes on", x.about(0), 1);
            due.is("no rally goes on", x.about(1), 0);
            due.order("begun", x, 0, 1, 2, 3, 4, 5, 6);
            due.order("begun", x, 1, 11, 12, 13, 14, 15, 16);
        }
        Rotationary same = new Rotationary();
        for (int place = 1; place <= 6; place++) {
            same.line(0, place, place);
            same.line(1, place, 7 - place);
        }
        same.libero(0, 20);
        same.libero(1, 20);
        due.is("begin with the same shirts in both teams", same.begin(1), 1);
    }

    private static void orderThatIsNotAsTold() {
        for (int team = 0; team <= 1; team++) {
            for (int place = 1; place <= 6; place++) {
                missingPlace(team, place);
                shirtThatStandsTwice(team, place);
                liberoInAPlace(team, place);
            }
        }
    }

    private static void missingPlace(int team, int place) {
        Rotationary x = new Rotationary();
        for (int other = 1; other <= 6; other++) {
            x.line(1 - team, other, other);
            if (other != place) {
                x.line(team, other, other);
            }
        }
        due.fails("begin without a place", Due.STATE, x, () -> x.begin(0));
        due.fails("begin with no team, nor all places", Due.INDEX, x, () -> x.begin(2));
        x.line(team, place, place);
        due.is("begin with all places", x.begin(0), 1);
    }

    private static void shirtThatStandsTwice(int team, int place) {
        Rotationary x = new Rotationary();
        Due.tellOrders(x);
        int other = place % 6 + 1;
        int before = x.line(team, other, x.at(team, place));
        due.fails("begin with a shirt twice", Due.STATE, x, () -> x.begin(1));
        x.line(team, other, before);
        due.is("begin with shirts unlike", x.begin(1), 1);
    }

    private static void liberoInAPlace(int team, int place) {
        Rotationary x = new Rotationary();
        Due.tellOrders(x);
        x.libero(team, x.at(team, place));
        due.fails("begin with a libero in a place", Due.STATE, x, () -> x.begin(0));
        x.libero(team, 20);
        due.is("begin with a libero in no place", x.begin(0), 1);
    }

    private static void whileASetGoesOn() {
        Rotationary x = Due.set();
        due.fails("line in a set", Due.STATE, x, () -> x.line(0, 1, 9));
        due.fails("line in a set, of no team", Due.INDEX, x, () -> x.line(2, 1, 9));
        due.fails("line in a set, of no place", Due.INDEX, x, () -> x.line(0, 0, 9));
        due.fails("line in a set, of no shirt", Due.INDEX, x, () -> x.line(0, 1, 21));
        due.fails("libero in a set", Due.STATE, x, () -> x.libero(0, 9));
        due.fails("libero in a set, of no shirt", Due.INDEX, x, () -> x.libero(0, 0));
        due.fails("libero in a set, of no team", Due.INDEX, x, () -> x.libero(-1, 9));
        due.fails("begin in a set", Due.STATE, x, () -> x.begin(0));
        due.fails("begin in a set, with no team", Due.INDEX, x, () -> x.begin(-1));
        x.serve(1);
        due.fails("line in a rally", Due.STATE, x, () -> x.line(0, 1, 9));
        due.fails("libero in a rally", Due.STATE, x, () -> x.libero(1, 9));
        due.fails("begin in a rally", Due.STATE, x, () -> x.begin(1));
        due.is("exchange with the libero as told", x.net(1, true) && x.exchange(0, 1), true);
        due.is("the libero as told", x.at(0, 1), 7);
    }

    private static void behindASet() {
        Rotationary x = new Rotationary();
        Due.winsSet(x, 1);
        for (int team = 0; team <= 1; team++) {
            due.order("behind a set", x, team, NONE, NONE, NONE, NONE, NONE, NONE);
        }
        due.fails("begin with nothing told", Due.STATE, x, () -> x.begin(0));
        Due.tellOrders(x);
        due.is("the libero is none behind a set", x.libero(0, 9), NONE);
        due.is("the other libero is none, too", x.libero(1, 19), NONE);
        due.is("begin of the second set", x.begin(0), 2);
        due.is("begin: first to serve", x.about(2), 0);
        due.score("second set", x, 0, 0);
        due.is("second set: exchange", x.exchange(0, 6), true);
        due.is("second set: the libero told anew", x.at(0, 6), 9);
    }

    private static void behindTheMatch() {
        for (int winner = 0; winner <= 1; winner++) {
            Rotationary x = new Rotationary();
            for (int set = 1; set <= 4; set++) {
                Due.winsSet(x, set % 2);
            }
            Due.tellOrders(x);
            due.is("begin of the fifth set", x.begin(0), 5);
            while (x.about(0) == 1) {
                Due.wins(x, winner);
            }
            due.is("sets of the winner", x.sets(winner), 3);
            due.is("sets of the other", x.sets(1 - winner), 2);
            due.fails("line behind the match", Due.STATE, x, () -> x.line(0, 1, 1));
            due.fails("line behind the match, of no shirt", Due.INDEX, x, () -> x.line(0, 1, 0));
            due.fails("libero behind the match", Due.STATE, x, () -> x.libero(1, 1));
            due.fails("libero behind the match, of no team", Due.INDEX, x, () -> x.libero(2, 1));
            due.fails("begin behind the match", Due.STATE, x, () -> x.begin(0));
            due.fails("begin behind the match, with no team", Due.INDEX, x, () -> x.begin(2));
            due.fails("serve behind the match", Due.STATE, x, () -> Due.one(x.serve(1)));
        }
    }
}
