/**
 * The sentences of the document that name a boundary and are not looked at elsewhere, one in each method, in the order of
 * its 'Terms': orders, rallies, services out of order, exchanges, substitutions, challenges. A method's comment holds its sentence.
 */
public final class BoundariesTest {
    private static final int NONE = Rotationary.NONE;
    private static final int PASS = Rotationary.PASS, ATTACK = Rotationary.ATTACK, BLOCK = Rotationary.BLOCK;
    private static final Due due = new Due();

    public static void main(String[] args) {
        shirtsOneAndTwenty();
        liberosOneAndTwenty();
        allSixOfBoth();
        allUnlike();
        liberoNoneOfThem();
        mayTellALibero();
        toldLastCounts();
        placesAndLiberosAreNone();
        setIsWon();
        fifthSetIsWon();
        matchIsWon();
        sixthRotation();
        everyEndGivesAPoint();
        firstTouchBehindTheService();
        liberoOfTheOtherTeam();
        firstFaultWithoutAJump();
        countedAnew();
        outForTheLastTeam();
        netTouchesOfBoth();
        asLongAsTheTeamServes();
        sinceTheFirstOfThese();
        findEndsTheMatch();
        findRotatesTheLibero();
        whoWentForTheLibero();
        exchangesAreNoSubstitutions();
        numbersOfTheOtherTeam();
        pairsForTheSet();
        nothingElseWithOneOfAPair();
        challengeOfEachEnd();
        challengesOfTheSet();
        whichSetItIs();
        endsAreToldOfTheSet();
        lostByRemainder();
        due.end();
    }

    /** Both teams have the same six shirts in their places 1 to 6. */
    private static Rotationary with(int... shirts) {
        Rotationary x = new Rotationary();
        for (int place = 1; place <= 6; place++) {
            x.line(0, place, shirts[place - 1]);
            x.line(1, place, shirts[place - 1]);
        }
        return x;
    }

    /** The first rally of a set, served in order by the team. */
    private static Rotationary rallyOf(int team) {
        Rotationary x = new Rotationary();
        Due.beginWithLiberos(x, team);
        x.serve(10 * team + 1);
        return x;
    }

    // ---- orders

    /** "There are the teams 0 and 1, and shirts 1 to 20." */
    private static void shirtsOneAndTwenty() {
        for (int shirt : new int[] {1, 20}) {
            for (int team = 0; team <= 1; team++) {
                Rotationary x = with(shirt, 2, 3, 4, 5, 6);
                x.libero(team, 7);
                x.begin(team);
                due.is("serve by " + shirt, x.serve(shirt), true);
                due.is("who touched last", x.about(4), shirt);
                due.is("touch by " + shirt, x.touch(1 - team, shirt, PASS, false), 0);
                x.fall(1 - team);
                due.is("goes by a pair", x.substitute(team, shirt, 8), 1);
                due.is("comes back", x.substitute(team, 8, shirt), 2);
                due.is("goes for the libero", x.exchange(team, shirt), true);
                Due.wins(x, team);
                due.is("comes back for the libero", x.exchange(team, shirt), false);
                due.is("it is there", x.at(team, 1), shirt);
                due.is("it is there by the sheet", x.atAnew(team, 1), shirt);
                due.is("comes by a pair", x.substitute(1 - team, 2, 21 - shirt), 1);
            }
        }
    }

    /** "There are the teams 0 and 1, and shirts 1 to 20", and liberos are of these. */
    private static void liberosOneAndTwenty() {
        for (int libero : new int[] {1, 20}) {
            for (int team = 0; team <= 1; team++) {
                Rotationary x = with(2, 3, 4, 5, 6, 7);
                x.libero(team, libero);
                x.begin(team);
                due.is("exchange for the libero " + libero, x.exchange(team, 2), true);
                due.is("serve by the libero " + libero, x.serve(libero), true);
                due.fails("serve in a rally", Due.STATE, x, () -> Due.one(x.serve(2)));
                x.fall(team);
                due.order("the libero does not rotate", x, team, libero, 3, 4, 5, 6, 7);
                due.is("exchange back of the libero " + libero, x.exchange(team, 2), false);
            }
        }
    }

    /** "a set is begun .., if all six of both are told": a libero makes up for none of them. */
    private static void allSixOfBoth() {
        for (int team = 0; team <= 1; team++) {
            for (int missing = 1; missing <= 6; missing++) {
                Rotationary x = new Rotationary();
                x.libero(0, 7);
                x.libero(1, 7);
                for (int place = 1; place <= 6; place++) {
                    x.line(1 - team, place, place);
                    if (place != missing) {
                        x.line(team, place, place);
                    }
                }
                due.fails("begin with five and a libero", Due.STATE, x, () -> x.begin(0));
                x.line(team, missing, missing);
                due.is("begin with six and a libero", x.begin(1 - team), 1);
            }
        }
        Rotationary one = new Rotationary();
        for (int place = 1; place <= 6; place++) {
            due.fails("begin with too few", Due.STATE, one, () -> one.begin(0));
            one.line(0, place, place);
        }
        due.fails("begin with one team told", Due.STATE, one, () -> one.begin(0));
        due.fails("begin with one team told, the other one first", Due.STATE, one, () -> one.begin(1));
    }

    /** "those of a team all unlike" */
    private static void allUnlike() {
        for (int team = 0; team <= 1; team++) {
            for (int place = 1; place <= 6; place++) {
                for (int other = 1; other <= 6; other++) {
                    if (other != place) {
                        Rotationary x = with(1, 2, 3, 4, 5, 6);
                        x.line(team, other, place);
                        due.fails("begin with " + place + " in " + other + ", too", Due.STATE, x, () -> x.begin(0));
                        x.line(team, place, other);
                        due.is("begin with both changed about", x.begin(0), 1);
                    }
                }
            }
        }
    }

    /** "its libero none of them": of the own six; who plays for the other team may be the same number. */
    private static void liberoNoneOfThem() {
        for (int team = 0; team <= 1; team++) {
            Rotationary x = new Rotationary();
            Due.tellOrders(x);
            int ofOther = x.at(1 - team, 3);
            x.libero(team, ofOther);
            due.is("begin with a number of the other team as libero", x.begin(team), 1);
            due.is("and it comes", x.exchange(team, x.at(team, 5)), true);
            due.is("to its place", x.at(team, 5), ofOther);
        }
        Rotationary same = with(1, 2, 3, 4, 5, 6);
        same.libero(0, 7);
        same.libero(1, 7);
        due.is("begin with one number for both liberos", same.begin(0), 1);
        due.is("one comes", same.exchange(0, 6), true);
        due.is("the other one is not there", same.at(1, 6), 6);
        due.is("the other one comes", same.exchange(1, 5), true);
    }

    /** "and may tell a libero" */
    private static void mayTellALibero() {
        for (int team = 0; team <= 1; team++) {
            int without = 1 - team;
            Rotationary x = with(1, 2, 3, 4, 5, 6);
            x.libero(team, 7);
            due.is("begin with one libero", x.begin(0), 1);
            due.is("it comes", x.exchange(team, 6), true);
            due.fails("there is none", Due.STATE, x, () -> Due.one(x.exchange(without, 6)));
            due.fails("nor one of this number", Due.STATE, x, () -> Due.one(x.exchange(without, 7)));
            due.is("so who has it plays", x.substitute(without, 6, 7), 1);
        }
    }

    /** "Ahead of a set each team tells who is in its places 1 to 6, and may tell a libero": what is told last counts. */
    private static void toldLastCounts() {
        Rotationary x = with(1, 2, 3, 4, 5, 6);
        x.libero(0, 7);
        x.libero(0, 1);
        due.fails("begin with the libero told last", Due.STATE, x, () -> x.begin(0));
        due.is("who was in the place", x.line(0, 1, 7), 1);
        due.is("begin with the place told last", x.begin(0), 1);
        due.is("the libero told last", x.exchange(0, 7), true);
        due.order("told last", x, 0, 1, 2, 3, 4, 5, 6);
    }

    /** "What was told ahead of a set is told anew for the next one: places and liberos are none then." */
    private static void placesAndLiberosAreNone() {
        for (int winner = 0; winner <= 1; winner++) {
            Rotationary x = Due.set();
            x.exchange(0, 6);
            x.exchange(1, 16);
            Due.wins(x, winner, 25);
            for (int team = 0; team <= 1; team++) {
                due.order("behind a set", x, team, NONE, NONE, NONE, NONE, NONE, NONE);
                due.is("no libero", x.libero(team, 9), NONE);
                for (int place = 1; place <= 6; place++) {
                    due.fails("not all are told", Due.STATE, x, () -> x.begin(0));
                    due.is("none in the place " + place, x.line(team, place, place), NONE);
                }
            }
            due.is("all are told", x.begin(winner), 2);
            due.is("the one who went is not known", x.exchange(0, 5), true);
        }
    }

    /** A set where the teams have so many points, made of sets won in turn and of rallies that do not end it before. */
    private static Rotationary at(int setsBefore, int ofFirst, int ofSecond) {
        Rotationary x = new Rotationary();
        for (int set = 0; set < setsBefore; set++) {
            Due.winsSet(x, set % 2);
        }
        Due.beginWithLiberos(x, 0);
        int both = Math.min(ofFirst, ofSecond);
        for (int rally = 0; rally < both; rally++) {
            Due.wins(x, 0);
            Due.wins(x, 1);
        }
        Due.wins(x, 0, ofFirst - both);
        Due.wins(x, 1, ofSecond - both);
        return x;
    }

    private static void set(int setsBefore, int more, int less, boolean isWon) {
        for (int winner = 0; winner <= 1; winner++) {
            int ofFirst = winner == 0 ? more : less;
            int ofSecond = winner == 0 ? less : more;
            Rotationary x = at(setsBefore, ofFirst, ofSecond);
            String when = "set " + (setsBefore + 1) + " at " + ofFirst + " to " + ofSecond;
            due.score(when, x, ofFirst, ofSecond);
            due.is(when + ": it goes on", x.about(0) == 0, isWon);
            due.is(when + ": sets of the winner", x.sets(winner), (setsBefore + 1 - winner) / 2 + Due.one(isWon));
            due.is(when + ": sets of the other", x.sets(1 - winner), (setsBefore + winner) / 2);
        }
    }

    /** "A set is won with 25 points, or more, and 2 more than the other team" */
    private static void setIsWon() {
        for (int setsBefore : new int[] {0, 3}) {
            set(setsBefore, 15, 0, false);
            set(setsBefore, 24, 0, false);
            set(setsBefore, 25, 0, true);
            set(setsBefore, 24, 22, false);
            set(setsBefore, 25, 23, true);
            set(setsBefore, 25, 24, false);
            set(setsBefore, 26, 24, true);
            set(setsBefore, 30, 29, false);
            set(setsBefore, 31, 29, true);
        }
    }

    /** "the fifth one with 15 and likewise" */
    private static void fifthSetIsWon() {
        set(4, 14, 0, false);
        set(4, 15, 0, true);
        set(4, 14, 12, false);
        set(4, 15, 13, true);
        set(4, 15, 14, false);
        set(4, 16, 14, true);
        set(4, 25, 24, false);
        set(4, 26, 24, true);
    }

    /** "who has 3 sets has won the match" */
    private static void matchIsWon() {
        for (int winner = 0; winner <= 1; winner++) {
            for (int ofOther = 0; ofOther <= 2; ofOther++) {
                Rotationary x = new Rotationary();
                for (int set = 0; set < ofOther; set++) {
                    Due.winsSet(x, 1 - winner);
                }
                for (int set = 1; set <= 3; set++) {
                    due.is("the match goes on", x.libero(winner, 9), NONE);
                    Due.winsSet(x, winner);
                    due.is("sets", x.sets(winner), set);
                }
                due.is("sets of the other", x.sets(1 - winner), ofOther);
                due.fails("line", Due.STATE, x, () -> x.line(0, 1, 1));
                due.fails("libero", Due.STATE, x, () -> x.libero(1, 1));
                due.fails("begin", Due.STATE, x, () -> x.begin(0));
                due.is("points of the last set", x.points(winner), ofOther == 2 ? 15 : 25);
            }
        }
    }

    /** "To rotate is: who is in the place 2 comes to 1, 3 to 2, and so on, 1 to 6." */
    private static void sixthRotation() {
        Rotationary x = Due.set();
        int[][] ofSecond = {
            {12, 13, 14, 15, 16, 11}, {13, 14, 15, 16, 11, 12}, {14, 15, 16, 11, 12, 13},
            {15, 16, 11, 12, 13, 14}, {16, 11, 12, 13, 14, 15}, {11, 12, 13, 14, 15, 16}, {12, 13, 14, 15, 16, 11}};
        int[][] ofFirst = {
            {2, 3, 4, 5, 6, 1}, {3, 4, 5, 6, 1, 2}, {4, 5, 6, 1, 2, 3},
            {5, 6, 1, 2, 3, 4}, {6, 1, 2, 3, 4, 5}, {1, 2, 3, 4, 5, 6}, {2, 3, 4, 5, 6, 1}};
        for (int rotation = 0; rotation < 7; rotation++) {
            Due.wins(x, 1);
            due.order("rotation " + rotation, x, 1, ofSecond[rotation]);
            Due.wins(x, 0);
            due.order("rotation " + rotation, x, 0, ofFirst[rotation]);
            due.order("no rotation of the other team", x, 1, ofSecond[rotation]);
        }
    }

    // ---- rallies

    /** Ends a rally of which the team serves, so that it is lost by the loser in the way told. */
    private static void end(Rotationary x, int server, int loser, int how) {
        int other = 1 - server;
        int base = 10 * loser;
        switch (how) {
            case Rotationary.OWN:
                x.touch(server, x.at(server, 2), PASS, false);
                return;
            case Rotationary.FALL:
                x.fall(loser);
                return;
            case Rotationary.NET:
                x.net(loser, true);
                return;
            default:
                break;
        }
        if (loser == server && how != Rotationary.OUT) {
            x.touch(other, x.at(other, 2), PASS, false);
        }
        if (loser == other && how == Rotationary.OUT) {
            x.touch(other, x.at(other, 2), PASS, false);
        }
        switch (how) {
            case Rotationary.OUT:
                x.fall(NONE);
                return;
            case Rotationary.TWICE:
                x.touch(loser, base + 3, PASS, false);
                x.touch(loser, base + 3, PASS, false);
                return;
            case Rotationary.FOURTH:
                for (int shirt = 2; shirt <= 5; shirt++) {
                    x.touch(loser, base + shirt, PASS, false);
                }
                return;
            case Rotationary.ROW:
                x.touch(loser, base + 5, BLOCK, false);
                return;
            default:
                x.touch(loser, base + 7, ATTACK, false);
                return;
        }
    }

    /** "A team that wins a rally has a point; if it did not serve it, it serves then, and rotates ahead of that." */
    private static void everyEndGivesAPoint() {
        for (int server = 0; server <= 1; server++) {
            for (int loser = 0; loser <= 1; loser++) {
                for (int how = Rotationary.OWN; how <= Rotationary.NET; how++) {
                    if (how == Rotationary.OWN && loser != server) {
                        continue;
                    }
                    Rotationary x = new Rotationary();
                    Due.beginWithLiberos(x, server);
                    x.exchange(loser, 10 * loser + 6);
                    x.serve(10 * server + 1);
                    end(x, server, loser, how);
                    String when = "end " + how + " of team " + loser + ", served by " + server;
                    due.is(when, x.about(3), how);
                    due.is(when + ": the rally", x.about(1), 0);
                    due.is(when + ": who serves", x.about(2), 1 - loser);
                    due.score(when, x, loser, 1 - loser);
                    int winnersFirst = 10 * (1 - loser) + (loser == server ? 2 : 1);
                    due.is(when + ": the winner's place 1", x.at(1 - loser, 1), winnersFirst);
                    due.is(when + ": the loser's place 1", x.at(loser, 1), 10 * loser + 1);
                    due.is(when + ": lost", x.lost(loser, 0), 1);
                    due.is(when + ": not lost", x.lost(1 - loser, 0) + x.lost(1 - loser, 1), 0);
                }
            }
        }
    }

    /** "OWN: of the team that serves, as the first touch behind the service" */
    private static void firstTouchBehindTheService() {
        for (int team = 0; team <= 1; team++) {
            for (int place = 1; place <= 6; place++) {
                for (int kind = PASS; kind <= BLOCK; kind++) {
                    Rotationary first = rallyOf(team);
                    due.is("first touch", first.touch(team, 10 * team + place, kind, false), Rotationary.OWN);
                }
                Rotationary second = rallyOf(team);
                second.touch(1 - team, 10 * (1 - team) + 2, PASS, false);
                due.is("second touch", second.touch(team, 10 * team + place, PASS, false), 0);
            }
        }
        Rotationary next = rallyOf(0);
        next.touch(1, 12, PASS, false);
        next.fall(1);
        next.serve(1);
        due.is("first touch of the next rally", next.touch(0, 3, PASS, false), Rotationary.OWN);
    }

    /** "LIBERO: an ATTACK by a libero": the number may be another's in the other team. */
    private static void liberoOfTheOtherTeam() {
        for (int team = 0; team <= 1; team++) {
            Rotationary x = new Rotationary();
            Due.tellOrders(x);
            x.libero(1 - team, x.at(team, 3));
            x.begin(1 - team);
            x.exchange(1 - team, x.at(1 - team, 6));
            x.serve(x.at(1 - team, 1));
            int number = x.at(team, 3);
            due.is("attack by the other team's number", x.touch(team, number, ATTACK, true), 0);
            due.is("attack by the libero", x.touch(1 - team, number, ATTACK, false), Rotationary.LIBERO);
        }
        Rotationary off = Due.set();
        off.exchange(1, 16);
        off.serve(1);
        off.fall(0);
        off.exchange(1, 16);
        off.serve(12);
        off.touch(0, 2, PASS, false);
        due.is("attack by who went for the libero", off.touch(1, 16, ATTACK, false), 0);
    }

    /** "A touch is a fault of its team, the first that is so": those that are so for a libero who did not jump in front. */
    private static void firstFaultWithoutAJump() {
        Rotationary own = Due.set();
        own.exchange(0, 6);
        own.serve(1);
        due.is("own and libero", own.touch(0, 7, ATTACK, false), Rotationary.OWN);
        Rotationary twice = liberoToReceive();
        twice.touch(1, 17, PASS, false);
        due.is("twice and libero", twice.touch(1, 17, ATTACK, false), Rotationary.TWICE);
        Rotationary fourth = liberoToReceive();
        fourth.touch(1, 12, PASS, false);
        fourth.touch(1, 13, PASS, false);
        fourth.touch(1, 14, PASS, false);
        due.is("fourth and libero", fourth.touch(1, 17, ATTACK, false), Rotationary.FOURTH);
        Rotationary row = liberoToReceive();
        row.touch(1, 12, PASS, false);
        row.touch(1, 13, PASS, false);
        row.touch(1, 14, PASS, false);
        due.is("a block is no fourth, but from behind", row.touch(1, 17, BLOCK, false), Rotationary.ROW);
        Rotationary block = Due.set();
        block.serve(1);
        block.touch(1, 15, PASS, false);
        due.is("twice and row", block.touch(1, 15, BLOCK, false), Rotationary.TWICE);
    }

    private static Rotationary liberoToReceive() {
        Rotationary x = Due.set();
        x.exchange(1, 16);
        x.serve(1);
        return x;
    }

    /** "a BLOCK of the team, or a touch of the other one, lets it be counted anew", and so does another rally. */
    private static void countedAnew() {
        for (int before = 1; before <= 3; before++) {
            for (int by = 0; by <= 4; by++) {
                Rotationary x = Due.set();
                x.serve(1);
                for (int touch = 0; touch < before; touch++) {
                    due.is("ahead of it", x.touch(1, 14 + touch % 2, PASS, false), 0);
                }
                countAnewBy(x, by);
                due.is("one", x.touch(1, 11, PASS, false), 0);
                due.is("two", x.touch(1, 12, PASS, false), 0);
                due.is("three", x.touch(1, 11, ATTACK, false), 0);
                due.is("four", x.touch(1, 12, PASS, false), Rotationary.FOURTH);
            }
        }
    }

    private static void countAnewBy(Rotationary x, int by) {
        switch (by) {
            case 0:
                due.is("a block of the team", x.touch(1, 13, BLOCK, false), 0);
                break;
            case 1: case 2: case 3:
                due.is("a touch of the other team", x.touch(0, 2, by == 1 ? PASS : by == 2 ? ATTACK : BLOCK, false), 0);
                break;
            default:
                x.fall(1);
                x.serve(1);
                break;
        }
    }

    /** "out it is for the team that touched it last, the service counting as a touch" */
    private static void outForTheLastTeam() {
        for (int server = 0; server <= 1; server++) {
            Rotationary service = rallyOf(server);
            due.is("the service out", service.fall(NONE), 1 - server);
            Rotationary net = rallyOf(server);
            net.net(1 - server, false);
            due.is("a net touch is no touch", net.fall(NONE), 1 - server);
            for (int touches = 1; touches <= 4; touches++) {
                Rotationary x = rallyOf(server);
                int team = server;
                for (int touch = 0; touch < touches; touch++) {
                    team = 1 - team;
                    x.touch(team, x.at(team, 2), ATTACK, false);
                }
                due.is("out behind " + touches, x.fall(NONE), 1 - team);
                due.is("out", x.about(3), Rotationary.OUT);
            }
            for (int touches = 1; touches <= 3; touches++) {
                Rotationary x = rallyOf(server);
                for (int touch = 1; touch <= touches; touch++) {
                    x.touch(1 - server, x.at(1 - server, 1 + touch), PASS, false);
                }
                due.is("out behind " + touches + " of one team", x.fall(NONE), server);
            }
        }
    }

    /** "A net touch that is seen is 8 NET, a fault; one that is not seen is noted." */
    private static void netTouchesOfBoth() {
        for (int seen = 0; seen <= 1; seen++) {
            Rotationary x = rallyOf(0);
            due.is("not seen", x.net(seen, false), false);
            due.is("not seen again", x.net(seen, false), false);
            due.is("not seen of the other team", x.net(1 - seen, false), false);
            due.is("the rally goes on", x.about(1), 1);
            due.is("seen", x.net(seen, true), true);
            due.is("who has won", x.about(2), 1 - seen);
            due.is("how", x.about(3), Rotationary.NET);
            int loser = seen;
            due.fails("the winner may not challenge", Due.STATE, x, () -> Due.one(x.challenge(1 - loser)));
            due.is("the loser turns it", x.challenge(seen), true);
            due.is("who has won then", x.about(2), seen);
        }
    }

    // ---- services out of order

    /** "It may be found, between rallies, as long as the team serves" */
    private static void asLongAsTheTeamServes() {
        for (int team = 0; team <= 1; team++) {
            Rotationary x = new Rotationary();
            Due.beginWithLiberos(x, team);
            due.is("out of order", x.serve(10 * team + 2), false);
            due.fails("in the rally", Due.STATE, x, x::find);
            x.fall(1 - team);
            Due.wins(x, team, 3);
            x.serve(10 * team + 1);
            due.fails("in a later rally", Due.STATE, x, x::find);
            x.fall(1 - team);
            due.is("find", x.find(), 5);
            due.score("find", x, team, 1 - team);
            due.is("the service", x.about(2), 1 - team);
            due.fails("find once more", Due.STATE, x, x::find);

            Rotationary gone = new Rotationary();
            Due.beginWithLiberos(gone, team);
            gone.serve(10 * team + 2);
            gone.fall(1 - team);
            Due.wins(gone, 1 - team);
            due.fails("the service has gone", Due.STATE, gone, gone::find);
            Due.wins(gone, 1 - team);
            due.fails("the other team serves in order", Due.STATE, gone, gone::find);
            Due.wins(gone, team, 2);
            due.fails("the service is back", Due.STATE, gone, gone::find);
            due.score("nothing is taken back", gone, team == 0 ? 3 : 2, team == 0 ? 2 : 3);
        }
    }

    /** "then the points that the team has had since the first one of these are taken back": of this turn alone. */
    private static void sinceTheFirstOfThese() {
        for (int ahead = 0; ahead <= 2; ahead++) {
            Rotationary x = Due.set();
            x.serve(2);
            x.fall(1);
            Due.wins(x, 1, 2);
            Due.wins(x, 0, 1 + ahead);
            x.serve(x.at(0, 6));
            x.fall(1);
            Due.wins(x, 0);
            x.serve(x.at(0, 3));
            x.fall(1);
            due.score("ahead of find", x, 5 + ahead, 2);
            due.is("find", x.find(), 3);
            due.score("find", x, 2 + ahead, 3);
            due.is("lost stays", x.lost(1, 0) + x.lost(1, 1), 5 + ahead);
        }
    }

    /** "the other team has a point, .. as if it had won a rally": so it may have won the set, and the match. */
    private static void findEndsTheMatch() {
        for (int winner = 0; winner <= 1; winner++) {
            int loser = 1 - winner;
            Rotationary x = new Rotationary();
            for (int set = 0; set < 4; set++) {
                Due.winsSet(x, set % 2);
            }
            Due.beginWithLiberos(x, winner);
            Due.wins(x, winner, 14);
            Due.wins(x, loser);
            x.serve(x.at(loser, 2));
            x.fall(winner);
            due.is("find", x.find(), 1);
            due.is("the match", x.sets(winner), 3);
            due.score("the match", x, winner == 0 ? 15 : 1, winner == 0 ? 1 : 15);
            due.is("no set goes on", x.about(0), 0);
            due.is("nobody serves", x.about(2), NONE);
            due.is("how", x.about(3), Rotationary.ORDER);
            due.is("no order", x.at(winner, 1), NONE);
            due.is("no order by the sheet", x.atAnew(winner, 1), NONE);
            due.fails("nothing more is found", Due.STATE, x, x::find);
            due.fails("nothing more is told", Due.STATE, x, () -> x.line(0, 1, 1));
            due.fails("nor challenged", Due.STATE, x, () -> Due.one(x.challenge(loser)));
        }
        Rotationary no = at(0, 23, 24);
        Due.wins(no, 0);
        no.serve(no.at(0, 2));
        no.fall(1);
        Due.wins(no, 1, 2);
        due.score("25 to 26", no, 25, 26);
        no.serve(no.at(1, 2));
        no.fall(1);
        due.fails("the service has gone", Due.STATE, no, no::find);
        due.is("26 all", no.about(0), 1);
    }

    /** "and the service, and rotates, as if it had won a rally": so a libero in the place 5 goes. */
    private static void findRotatesTheLibero() {
        Rotationary x = Due.set();
        x.exchange(1, 15);
        x.serve(2);
        x.touch(1, 17, PASS, false);
        x.fall(1);
        due.is("find", x.find(), 1);
        due.order("the libero has gone", x, 1, 12, 13, 14, 15, 16, 11);
        due.is("and may come again at once", x.exchange(1, 11), true);

        Rotationary y = Due.set();
        y.serve(2);
        y.fall(1);
        y.exchange(1, 11);
        due.is("find behind an exchange", y.find(), 1);
        due.order("the libero rotates", y, 1, 12, 13, 14, 15, 16, 17);
        due.fails("a find is no rally between", Due.STATE, y, () -> Due.one(y.exchange(1, 11)));
        Due.wins(y, 1);
        due.is("a rally is", y.exchange(1, 11), false);
    }

    // ---- exchanges

    /** "or the one who went back for the libero": nobody else, wherever the libero is by then. */
    private static void whoWentForTheLibero() {
        for (int turns = 0; turns <= 2; turns++) {
            Rotationary x = Due.set();
            x.exchange(0, 1);
            Due.wins(x, 0);
            for (int turn = 0; turn < turns; turn++) {
                Due.wins(x, 1);
                Due.wins(x, 0);
            }
            int place = turns == 0 ? 1 : 7 - turns;
            due.is("where the libero is", x.at(0, place), 7);
            for (int shirt = 2; shirt <= 20; shirt++) {
                int another = shirt;
                due.fails("another one", Due.STATE, x, () -> Due.one(x.exchange(0, another)));
            }
            due.is("the one who went", x.exchange(0, 1), false);
            due.is("where the libero was", x.at(0, place), 1);
        }
        Rotationary gone = Due.set();
        gone.exchange(0, 5);
        Due.wins(gone, 1);
        Due.wins(gone, 0);
        due.is("who went is back at once", gone.at(0, 4), 5);
        due.fails("so in front", Due.STATE, gone, () -> Due.one(gone.exchange(0, 5)));
        due.is("and somebody else goes", gone.exchange(0, 1), true);
    }

    /** "A substitution, at most 6 of a team in a set": exchanges are none, and have no such bound. */
    private static void exchangesAreNoSubstitutions() {
        Rotationary x = Due.set();
        for (int exchange = 1; exchange <= 14; exchange++) {
            due.is("exchange " + exchange, x.exchange(0, 6), exchange % 2 == 1);
            due.is("substitutions", x.of(0, 0), 0);
            Due.wins(x, 0);
        }
        for (int place = 1; place <= 6; place++) {
            due.is("substitution " + place, x.substitute(0, place, 7 + place), place);
        }
        due.fails("a seventh", Due.STATE, x, () -> x.substitute(0, 8, 1));
        due.is("an exchange still", x.exchange(0, 13), true);

        Rotationary y = Due.set();
        y.exchange(0, 6);
        for (int place = 1; place <= 5; place++) {
            due.is("substitution with the libero in, " + place, y.substitute(0, place, 7 + place), place);
        }
        due.is("and a sixth", y.substitute(0, 12, 5), 6);
        due.fails("but no seventh", Due.STATE, y, () -> y.substitute(0, 11, 4));
    }

    // ---- substitutions

    /** "by one who is not, and is neither the libero nor the one who went for the libero": of the own team. */
    private static void numbersOfTheOtherTeam() {
        Rotationary x = Due.set();
        due.is("comes: the number of the other libero", x.substitute(0, 2, 17), 1);
        due.is("goes: the number of the other libero", x.substitute(0, 17, 2), 2);
        due.is("comes: the number of the other libero, of team 1", x.substitute(1, 12, 7), 1);
        due.is("comes: one on the other court", x.substitute(0, 3, 13), 3);
        x.exchange(1, 16);
        due.is("comes: who went for the other libero", x.substitute(0, 4, 16), 4);
        x.exchange(0, 6);
        due.is("comes: who went for the other libero, of team 1", x.substitute(1, 14, 6), 2);
        due.order("all", x, 0, 1, 2, 13, 16, 5, 7);
        due.order("all", x, 1, 11, 7, 13, 6, 15, 17);
    }

    /** "both are a pair for the set then" */
    private static void pairsForTheSet() {
        for (int shirt : new int[] {1, 20}) {
            Rotationary x = with(shirt, 2, 3, 4, 5, 6);
            x.begin(0);
            x.substitute(0, shirt, 8);
            x.substitute(1, 2, 21 - shirt);
            Due.wins(x, 0, 25);
            for (int team = 0; team <= 1; team++) {
                for (int place = 1; place <= 6; place++) {
                    x.line(team, place, place == 1 ? shirt : place);
                }
            }
            x.begin(0);
            due.is("who went, by another", x.substitute(0, shirt, 9), 1);
            due.is("who came, for another", x.substitute(0, 3, 8), 2);
            due.is("who went, by another, of team 1", x.substitute(1, 2, 9), 1);
            due.is("who came, for another, of team 1", x.substitute(1, 3, 21 - shirt), 2);
        }
    }

    /** "the one who came can go, and the other one come back, once; nothing else with one of a pair" */
    private static void nothingElseWithOneOfAPair() {
        for (int team = 0; team <= 1; team++) {
            int of = team;
            int base = 10 * team;
            Rotationary x = Due.set();
            x.substitute(team, base + 2, 9);
            onlyThisPair(x, of, 9, base + 2);
            due.is("back", x.substitute(team, 9, base + 2), 2);
            onlyThisPair(x, of, base + 2, 0);
            for (int shirt = base + 3; shirt <= base + 6; shirt++) {
                int goes = shirt;
                due.fails("the one who came, for another", Due.STATE, x, () -> x.substitute(of, goes, 9));
            }
            due.is("two others", x.substitute(team, base + 3, 8), 3);
        }
    }

    private static void onlyThisPair(Rotationary x, int team, int goes, int partner) {
        for (int shirt = 1; shirt <= 20; shirt++) {
            int comes = shirt;
            if (shirt != partner) {
                due.fails("of the pair by another", Due.STATE, x, () -> x.substitute(team, goes, comes));
            }
        }
    }

    // ---- challenges

    /** "if a net touch of the other team in it was noted, but not seen, .. the team has won it by NET": however it ended. */
    private static void challengeOfEachEnd() {
        for (int server = 0; server <= 1; server++) {
            for (int loser = 0; loser <= 1; loser++) {
                for (int how = Rotationary.OWN; how <= Rotationary.NET; how++) {
                    if (how != Rotationary.OWN || loser == server) {
                        challengeOf(server, loser, how, true);
                        challengeOf(server, loser, how, false);
                    }
                }
            }
        }
    }

    private static void challengeOf(int server, int loser, int how, boolean isNoted) {
        Rotationary x = new Rotationary();
        Due.beginWithLiberos(x, server);
        x.exchange(loser, 10 * loser + 6);
        x.serve(10 * server + 1);
        x.net(isNoted ? 1 - loser : loser, false);
        end(x, server, loser, how);
        due.fails("the winner may not", Due.STATE, x, () -> Due.one(x.challenge(1 - loser)));
        String when = "challenge of " + how + " by " + loser + ", served by " + server;
        due.is(when, x.challenge(loser), isNoted);
        int winner = isNoted ? loser : 1 - loser;
        due.score(when, x, 1 - winner, winner);
        due.is(when + ": how it ended", x.about(3), isNoted ? Rotationary.NET : how);
        due.is(when + ": who serves", x.about(2), winner);
        due.is(when + ": what is left", x.of(loser, 1), isNoted ? 2 : 1);
        due.is(when + ": what is left to the other", x.of(1 - loser, 1), 2);
        due.is(when + ": lost", x.lost(1 - winner, 0), 1);
        due.is(when + ": place 1 of who won", x.at(winner, 1), 10 * winner + (winner == server ? 1 : 2));
        due.is(when + ": place 1 of who lost", x.at(1 - winner, 1), 10 * (1 - winner) + 1);
        due.fails(when + ": again", Due.STATE, x, () -> Due.one(x.challenge(loser)));
        due.fails(when + ": again, by the other", Due.STATE, x, () -> Due.one(x.challenge(1 - loser)));
    }

    /** "otherwise one of its 2 challenges of the set is used up. With none left it may not." */
    private static void challengesOfTheSet() {
        for (int team = 0; team <= 1; team++) {
            int of = team;
            Rotationary x = new Rotationary();
            Due.beginWithLiberos(x, 1 - team);
            for (int left = 1; left >= 0; left--) {
                x.serve(x.at(1 - team, 1));
                x.net(1 - team, false);
                x.fall(team);
                due.is("turned", x.challenge(team), true);
                due.is("none used up", x.of(team, 1), left + 1);
                Due.wins(x, 1 - team);
                due.is("in vain", x.challenge(team), false);
                due.is("one used up", x.of(team, 1), left);
            }
            x.serve(x.at(1 - team, 1));
            x.net(1 - team, false);
            x.fall(team);
            due.fails("none left, though a net touch was noted", Due.STATE, x, () -> Due.one(x.challenge(of)));
            due.is("none left", x.of(team, 1), 0);
            due.is("both left to the other team", x.of(1 - team, 1), 2);
            Due.wins(x, team);
            due.is("the other team", x.challenge(1 - team), false);
        }
    }

    /** "Returns which set it is, from 1": a set whose end is turned round goes on, and is no other one. */
    private static void whichSetItIs() {
        Rotationary x = new Rotationary();
        Due.beginWithLiberos(x, 0);
        Due.wins(x, 0, 24);
        x.serve(1);
        x.net(0, false);
        x.fall(1);
        due.is("the set is won", x.sets(0), 1);
        due.is("turned", x.challenge(1), true);
        due.fails("it goes on", Due.STATE, x, () -> x.begin(0));
        Due.wins(x, 0);
        for (int set = 2; set <= 5; set++) {
            Due.tellOrders(x);
            due.is("which set", x.begin(set % 2), set);
            due.is("who serves", x.about(2), set % 2);
            due.fails("begun already", Due.STATE, x, () -> x.begin(0));
            while (x.about(0) == 1) {
                Due.wins(x, (set + 1) % 2);
            }
        }
        due.is("sets", x.sets(0), 3);
    }

    /** "how the last rally of the set ended, OWN to NET, or ORDER behind a find(), .. 0 without one" */
    private static void endsAreToldOfTheSet() {
        Rotationary x = Due.set();
        due.is("without one", x.about(3), 0);
        x.serve(1);
        due.is("in the first rally", x.about(3), 0);
        x.fall(1);
        due.is("behind it", x.about(3), Rotationary.FALL);
        x.serve(3);
        due.is("in the next one", x.about(3), Rotationary.FALL);
        x.fall(1);
        x.find();
        due.is("behind a find", x.about(3), Rotationary.ORDER);
        x.exchange(0, 1);
        x.substitute(0, 2, 8);
        x.serve(12);
        due.is("in the rally behind a find", x.about(3), Rotationary.ORDER);
        x.fall(NONE);
        due.is("behind that", x.about(3), Rotationary.OUT);
        while (x.about(0) == 1) {
            Due.wins(x, 0);
        }
        Due.tellOrders(x);
        x.begin(1);
        due.is("without one in the next set", x.about(3), 0);
    }

    /** "a team lost after so many rotations, by their remainder by 6" */
    private static void lostByRemainder() {
        for (int team = 0; team <= 1; team++) {
            Rotationary x = new Rotationary();
            Due.beginWithLiberos(x, 1 - team);
            int[] lost = new int[6];
            for (int rotations = 0; rotations <= 13; rotations++) {
                due.losses("behind " + rotations + " rotations", x, team, lost);
                Due.wins(x, 1 - team);
                lost[rotations % 6]++;
                due.losses("lost behind " + rotations + " rotations", x, team, lost);
                Due.wins(x, team);
            }
            int sum = 0;
            for (int rotations = 0; rotations <= 5; rotations++) {
                sum += x.lost(1 - team, rotations);
            }
            due.is("all that the other team lost", sum, 14);
        }
    }
}
