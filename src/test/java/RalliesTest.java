/** Promises 5 to 8: serve, touch, fall, net. */
public final class RalliesTest {
    private static final int NONE = Rotationary.NONE;
    private static final int PASS = Rotationary.PASS, ATTACK = Rotationary.ATTACK, BLOCK = Rotationary.BLOCK;
    private static final Due due = new Due();

    public static void main(String[] args) {
        serve();
        serveWrongly();
        touchWrongly();
        own();
        twice();
        fourth();
        row();
        libero();
        firstFaultThatIsSo();
        fall();
        net();
        rotation();
        due.end();
    }

    private static Rotationary rally() {
        Rotationary x = Due.set();
        x.serve(1);
        return x;
    }

    private static void ended(String when, Rotationary x, int how, int winner) {
        due.is(when + ": how it ended", x.about(3), how);
        due.is(when + ": a rally goes on", x.about(1), 0);
        due.is(when + ": who touched last", x.about(4), NONE);
        due.is(when + ": who serves", x.about(2), winner);
        due.score(when, x, 1 - winner, winner);
    }

    private static void serve() {
        for (int shirt = 1; shirt <= 6; shirt++) {
            Rotationary x = Due.set();
            due.is("serve by " + shirt, x.serve(shirt), shirt == 1);
            due.is("a rally goes on", x.about(1), 1);
            due.is("the service is a touch", x.about(4), shirt);
            due.is("no rally has ended", x.about(3), 0);
        }
        Rotationary x = Due.set();
        x.exchange(0, 1);
        due.is("serve by the libero in the place 1", x.serve(7), true);
        x.fall(1);
        due.is("serve by another one", x.serve(2), false);
        x.fall(0);
        due.is("serve of the other team that has rotated", x.serve(12), true);
        x.fall(0);
        due.is("serve by who was in the place 1", x.serve(11), false);
    }

    private static void serveWrongly() {
        Rotationary none = new Rotationary();
        due.fails("serve ahead of a set", Due.STATE, none, () -> Due.one(none.serve(1)));
        due.fails("serve ahead of a set, no shirt", Due.INDEX, none, () -> Due.one(none.serve(0)));
        Due.tellOrders(none);
        due.fails("serve ahead of begin", Due.STATE, none, () -> Due.one(none.serve(1)));
        Rotationary x = Due.set();
        for (int shirt : new int[] {-1, 0, 21, Integer.MAX_VALUE, Integer.MIN_VALUE}) {
            due.fails("serve by no shirt", Due.INDEX, x, () -> Due.one(x.serve(shirt)));
        }
        for (int shirt : new int[] {7, 8, 11, 20}) {
            due.fails("serve by one who is not on the court", Due.STATE, x, () -> Due.one(x.serve(shirt)));
        }
        x.exchange(0, 1);
        due.fails("serve by who went for the libero", Due.STATE, x, () -> Due.one(x.serve(1)));
        x.serve(7);
        due.fails("serve in a rally", Due.STATE, x, () -> Due.one(x.serve(7)));
        due.fails("serve in a rally, no shirt", Due.INDEX, x, () -> Due.one(x.serve(21)));
        Rotationary over = new Rotationary();
        Due.winsSet(over, 0);
        due.fails("serve behind a set", Due.STATE, over, () -> Due.one(over.serve(1)));
    }

    private static void touchWrongly() {
        Rotationary x = Due.set();
        due.fails("touch without a rally", Due.STATE, x, () -> x.touch(1, 11, PASS, false));
        due.fails("touch of no kind without a rally", Due.ARGUMENT, x, () -> x.touch(1, 11, 3, false));
        x.serve(1);
        due.fails("touch of no team", Due.INDEX, x, () -> x.touch(2, 11, 3, false));
        due.fails("touch of team NONE", Due.INDEX, x, () -> x.touch(NONE, 11, PASS, false));
        due.fails("touch of no shirt", Due.INDEX, x, () -> x.touch(1, 0, -1, false));
        due.fails("touch of a shirt 21", Due.INDEX, x, () -> x.touch(1, 21, PASS, false));
        due.fails("touch of a kind below", Due.ARGUMENT, x, () -> x.touch(1, 11, -1, false));
        due.fails("touch of a kind above", Due.ARGUMENT, x, () -> x.touch(1, 11, 3, false));
        due.fails("touch of no kind off the court", Due.ARGUMENT, x, () -> x.touch(1, 1, 3, false));
        due.fails("touch off the court", Due.STATE, x, () -> x.touch(1, 1, PASS, false));
        due.fails("touch by a libero off the court", Due.STATE, x, () -> x.touch(1, 17, PASS, false));
        due.fails("touch off the court of the serving team", Due.STATE, x, () -> x.touch(0, 11, PASS, false));
        due.is("touch behind wrong ones", x.touch(1, 11, PASS, false), 0);
        due.is("who touched last", x.about(4), 11);
        due.is("a rally goes on", x.about(1), 1);
    }

    private static void own() {
        for (int kind = PASS; kind <= BLOCK; kind++) {
            for (int shirt = 1; shirt <= 6; shirt++) {
                Rotationary x = rally();
                due.is("own touch", x.touch(0, shirt, kind, true), Rotationary.OWN);
                ended("own", x, Rotationary.OWN, 1);
            }
        }
        Rotationary x = rally();
        x.net(0, false);
        due.is("own touch behind a net touch", x.touch(0, 2, PASS, false), Rotationary.OWN);
        Rotationary y = rally();
        y.touch(1, 11, PASS, false);
        due.is("touch behind one of the others", y.touch(0, 1, PASS, false), 0);
        y.fall(0);
        y.serve(12);
        due.is("own of the other team", y.touch(1, 11, PASS, false), Rotationary.OWN);
        due.score("own of the other team", y, 1, 1);
    }

    private static void twice() {
        for (int kind = PASS; kind <= ATTACK; kind++) {
            for (int again = PASS; again <= BLOCK; again++) {
                Rotationary x = rally();
                x.touch(1, 13, kind, false);
                due.is("twice", x.touch(1, 13, again, false), Rotationary.TWICE);
                ended("twice", x, Rotationary.TWICE, 0);
            }
        }
        for (int again = PASS; again <= BLOCK; again++) {
            Rotationary x = rally();
            x.touch(1, 13, BLOCK, false);
            due.is("again behind a block", x.touch(1, 13, again, false), 0);
            due.is("then twice but behind a block", x.touch(1, 13, PASS, false), again == BLOCK ? 0 : Rotationary.TWICE);
        }
        Rotationary x = rally();
        x.touch(1, 13, PASS, false);
        x.touch(1, 14, PASS, false);
        due.is("again behind another one", x.touch(1, 13, PASS, false), 0);
        Rotationary y = rally();
        y.touch(1, 13, ATTACK, false);
        y.touch(0, 2, PASS, false);
        due.is("again behind the other team", y.touch(1, 13, PASS, false), 0);
        sameShirtInBothTeams();
    }

    private static void sameShirtInBothTeams() {
        Rotationary x = new Rotationary();
        for (int place = 1; place <= 6; place++) {
            x.line(0, place, place);
            x.line(1, place, place);
        }
        x.begin(0);
        x.serve(1);
        due.is("the same shirt as who served, of the other team", x.touch(1, 1, PASS, false), 0);
        due.is("the same shirt of the other team again", x.touch(0, 1, PASS, false), 0);
        due.is("now twice", x.touch(0, 1, PASS, false), Rotationary.TWICE);
    }

    private static void fourth() {
        Rotationary x = rally();
        passes(x, 1, 12, 13, 14);
        due.is("fourth", x.touch(1, 15, ATTACK, false), Rotationary.FOURTH);
        ended("fourth", x, Rotationary.FOURTH, 0);

        Rotationary y = rally();
        passes(y, 1, 12, 13, 14);
        due.is("a block is no fourth", y.touch(1, 12, BLOCK, false), 0);
        passes(y, 1, 12, 13, 14);
        due.is("fourth behind a block", y.touch(1, 12, PASS, false), Rotationary.FOURTH);

        Rotationary z = rally();
        passes(z, 1, 12, 13);
        due.is("a block between", z.touch(1, 14, BLOCK, false), 0);
        passes(z, 1, 13, 12, 13);
        due.is("fourth behind a block between", z.touch(1, 12, PASS, false), Rotationary.FOURTH);

        for (int kind = PASS; kind <= BLOCK; kind++) {
            Rotationary u = rally();
            passes(u, 1, 12, 13, 14);
            due.is("touch of the other team", u.touch(0, 3, kind, false), 0);
            passes(u, 1, 12, 13, 14);
            due.is("touch of the other team again", u.touch(0, 3, kind, false), 0);
            passes(u, 0, 4, 5);
            due.is("third or fourth of the serving team", u.touch(0, 6, PASS, false), kind == BLOCK ? 0 : Rotationary.FOURTH);
        }
    }

    private static void passes(Rotationary x, int team, int... shirts) {
        for (int shirt : shirts) {
            due.is("pass by " + shirt, x.touch(team, shirt, PASS, true), 0);
        }
    }

    private static void row() {
        for (int place = 1; place <= 6; place++) {
            boolean isInFront = place >= 2 && place <= 4;
            for (boolean inFront : new boolean[] {false, true}) {
                Rotationary x = rally();
                due.is("pass from " + place, x.touch(1, 10 + place, PASS, inFront), 0);
                Rotationary y = rally();
                due.is("attack from " + place, y.touch(1, 10 + place, ATTACK, inFront), inFront && !isInFront ? Rotationary.ROW : 0);
                Rotationary z = rally();
                due.is("block from " + place, z.touch(1, 10 + place, BLOCK, inFront), isInFront ? 0 : Rotationary.ROW);
                if (!isInFront) {
                    ended("row", z, Rotationary.ROW, 0);
                }
            }
        }
        Rotationary x = rally();
        x.fall(0);
        x.serve(12);
        x.touch(0, 2, PASS, false);
        due.is("block from the place 1 behind a rotation", x.touch(1, 12, BLOCK, false), Rotationary.ROW);
        Rotationary y = rally();
        y.fall(0);
        y.serve(12);
        y.touch(0, 2, PASS, false);
        due.is("block from the place 4 behind a rotation", y.touch(1, 15, BLOCK, false), 0);
    }

    private static void libero() {
        Rotationary x = Due.set();
        x.exchange(1, 16);
        x.serve(1);
        due.is("pass by a libero", x.touch(1, 17, PASS, true), 0);
        x.touch(1, 12, PASS, false);
        due.is("attack by a libero", x.touch(1, 17, ATTACK, false), Rotationary.LIBERO);
        ended("attack by a libero", x, Rotationary.LIBERO, 0);
        Rotationary y = Due.set();
        y.exchange(1, 16);
        y.serve(1);
        due.is("attack by a libero in front", y.touch(1, 17, ATTACK, true), Rotationary.ROW);
        Rotationary z = Due.set();
        z.exchange(1, 16);
        z.serve(1);
        due.is("block by a libero", z.touch(1, 17, BLOCK, false), Rotationary.ROW);
    }

    private static void firstFaultThatIsSo() {
        Rotationary own = Due.set();
        own.exchange(0, 1);
        own.serve(7);
        due.is("own, twice, row and libero", own.touch(0, 7, ATTACK, true), Rotationary.OWN);

        Rotationary twice = Due.set();
        twice.exchange(1, 16);
        twice.serve(1);
        passes(twice, 1, 12, 13, 17);
        due.is("twice, fourth, row and libero", twice.touch(1, 17, ATTACK, true), Rotationary.TWICE);

        Rotationary fourth = Due.set();
        fourth.exchange(1, 16);
        fourth.serve(1);
        passes(fourth, 1, 12, 17, 13);
        due.is("fourth, row and libero", fourth.touch(1, 17, ATTACK, true), Rotationary.FOURTH);
    }

    private static void fall() {
        for (int team = 0; team <= 1; team++) {
            Rotationary x = rally();
            due.is("fall on the court", x.fall(team), 1 - team);
            ended("fall", x, Rotationary.FALL, 1 - team);
            due.fails("fall without a rally", Due.STATE, x, () -> x.fall(0));
            due.fails("out without a rally", Due.STATE, x, () -> x.fall(NONE));
            due.fails("fall without a rally, on no court", Due.INDEX, x, () -> x.fall(2));
        }
        Rotationary service = rally();
        due.fails("fall on no court", Due.INDEX, service, () -> service.fall(2));
        due.fails("fall on no court below", Due.INDEX, service, () -> service.fall(-2));
        due.is("service out", service.fall(NONE), 1);
        ended("service out", service, Rotationary.OUT, 1);
        for (int kind = PASS; kind <= BLOCK; kind++) {
            Rotationary x = rally();
            x.touch(1, 12, kind, false);
            due.is("out by the other team", x.fall(NONE), 0);
            ended("out by the other team", x, Rotationary.OUT, 0);
        }
        Rotationary back = rally();
        back.touch(1, 12, PASS, false);
        back.touch(0, 2, PASS, false);
        due.is("out by who served", back.fall(NONE), 1);
    }

    private static void net() {
        for (int team = 0; team <= 1; team++) {
            int of = team;
            Rotationary x = Due.set();
            due.fails("net without a rally", Due.STATE, x, () -> Due.one(x.net(of, true)));
            x.serve(1);
            due.fails("net of no team", Due.INDEX, x, () -> Due.one(x.net(2, true)));
            due.fails("net of team NONE", Due.INDEX, x, () -> Due.one(x.net(NONE, false)));
            due.is("net not seen", x.net(team, false), false);
            due.is("net not seen: a rally goes on", x.about(1), 1);
            due.is("net not seen: who touched last", x.about(4), 1);
            due.is("net seen", x.net(team, true), true);
            ended("net seen", x, Rotationary.NET, 1 - team);
            due.fails("net behind the rally, of no team", Due.INDEX, x, () -> Due.one(x.net(-2, false)));
        }
    }

    private static void rotation() {
        Rotationary x = Due.set();
        Due.wins(x, 0);
        due.order("who serves and wins", x, 0, 1, 2, 3, 4, 5, 6);
        due.order("who does not serve and loses", x, 1, 11, 12, 13, 14, 15, 16);
        Due.wins(x, 1);
        due.order("who serves and loses", x, 0, 1, 2, 3, 4, 5, 6);
        due.order("who does not serve and wins", x, 1, 12, 13, 14, 15, 16, 11);
        Due.wins(x, 0);
        due.order("who has the service back", x, 0, 2, 3, 4, 5, 6, 1);
        for (int turn = 0; turn < 5; turn++) {
            Due.wins(x, 1);
            Due.wins(x, 0);
        }
        due.order("all round", x, 0, 1, 2, 3, 4, 5, 6);
        due.order("all round", x, 1, 11, 12, 13, 14, 15, 16);
    }
}
