/** Promises 9 to 12: find, exchange, substitute, challenge. */
public final class BetweenTest {
    private static final int NONE = Rotationary.NONE;
    private static final Due due = new Due();

    public static void main(String[] args) {
        find();
        findOnlySinceTheFirstWrongService();
        findNothing();
        findTheEndOfASet();
        exchange();
        exchangeWrongly();
        exchangeOnceWithoutARally();
        liberoRotates();
        substitute();
        substituteWrongly();
        substituteByPairs();
        substituteSixTimes();
        challengeInVain();
        challengeThatTurns();
        challengeAfterSomethingTold();
        challengeTheEndOfASet();
        challengeTheEndOfTheMatch();
        challengeAndOutOfOrder();
        due.end();
    }

    // ---- find

    private static void find() {
        Rotationary x = Due.set();
        x.serve(3);
        due.fails("find in a rally", Due.STATE, x, x::find);
        x.fall(1);
        due.score("ahead of find", x, 1, 0);
        due.is("find", x.find(), 1);
        due.score("find", x, 0, 1);
        due.is("find: who serves", x.about(2), 1);
        due.is("find: how it ended", x.about(3), Rotationary.ORDER);
        due.is("find: a rally goes on", x.about(1), 0);
        due.order("find: who rotates", x, 1, 12, 13, 14, 15, 16, 11);
        due.order("find: who does not", x, 0, 1, 2, 3, 4, 5, 6);
        due.losses("find is no rally", x, 0, 0, 0, 0, 0, 0, 0);
        due.losses("find: the rally stays lost", x, 1, 1, 0, 0, 0, 0, 0);
        due.fails("find again", Due.STATE, x, x::find);
        due.fails("challenge behind find", Due.STATE, x, () -> Due.one(x.challenge(1)));
        due.fails("challenge of a find", Due.STATE, x, () -> Due.one(x.challenge(0)));
        Due.wins(x, 0);
        due.losses("behind find: the rotation counts", x, 1, 1, 1, 0, 0, 0, 0);
    }

    private static void findOnlySinceTheFirstWrongService() {
        Rotationary x = Due.set();
        Due.wins(x, 0, 2);
        x.serve(2);
        x.fall(1);
        Due.wins(x, 0, 3);
        x.serve(4);
        x.fall(1);
        due.score("ahead of find", x, 7, 0);
        due.is("find since the first wrong service", x.find(), 5);
        due.score("find", x, 2, 1);
        Due.wins(x, 0);
        due.order("the service back", x, 0, 2, 3, 4, 5, 6, 1);
        due.fails("find one of an earlier turn", Due.STATE, x, x::find);
        x.exchange(0, 2);
        x.substitute(0, 3, 9);
        x.serve(7);
        x.fall(1);
        due.fails("find where the libero served in order", Due.STATE, x, x::find);
        x.serve(9);
        x.fall(1);
        x.substitute(0, 9, 3);
        due.is("find behind a substitution", x.find(), 1);
        due.score("find again", x, 4, 2);
    }

    private static void findNothing() {
        Rotationary x = new Rotationary();
        due.fails("find ahead of a set", Due.STATE, x, x::find);
        Due.tellOrders(x);
        x.begin(0);
        due.fails("find ahead of a rally", Due.STATE, x, x::find);
        Due.wins(x, 0);
        due.fails("find with all in order", Due.STATE, x, x::find);
        x.serve(2);
        x.fall(0);
        due.fails("find when the service has gone", Due.STATE, x, x::find);
        Due.wins(x, 0);
        due.fails("find when the service has come back", Due.STATE, x, x::find);
    }

    private static void findTheEndOfASet() {
        Rotationary x = Due.set();
        Due.wins(x, 1, 24);
        x.serve(13);
        x.fall(0);
        due.is("the set is won out of order", x.sets(1), 1);
        due.fails("find behind a set", Due.STATE, x, x::find);

        Rotationary y = Due.set();
        Due.wins(y, 1, 24);
        Due.wins(y, 0, 20);
        y.serve(3);
        y.fall(1);
        due.is("find that ends a set", y.find(), 1);
        due.is("the set is won by find", y.sets(1), 1);
        due.is("the set is over", y.about(0), 0);
        due.is("who serves then", y.about(2), NONE);
        due.is("how it ended", y.about(3), Rotationary.ORDER);
        due.score("find that ends a set", y, 20, 25);
        due.fails("challenge of it", Due.STATE, y, () -> Due.one(y.challenge(0)));

        Rotationary z = Due.set();
        Due.wins(z, 1, 24);
        Due.wins(z, 0, 23);
        z.serve(z.at(0, 2));
        z.fall(1);
        due.score("24 all", z, 24, 24);
        due.is("find from 24 all", z.find(), 1);
        due.score("25 to 23", z, 23, 25);
        due.is("and the set", z.sets(1), 1);

        Rotationary u = Due.set();
        Due.wins(u, 1, 24);
        Due.wins(u, 0, 24);
        u.serve(u.at(0, 2));
        u.fall(0);
        Due.wins(u, 0);
        due.fails("nothing behind the loss", Due.STATE, u, u::find);
    }

    // ---- exchange

    private static void exchange() {
        for (int team = 0; team <= 1; team++) {
            for (int place : new int[] {1, 5, 6}) {
                Rotationary x = Due.set();
                int goes = x.at(team, place);
                int libero = 10 * team + 7;
                due.is("exchange", x.exchange(team, goes), true);
                due.is("the libero is there", x.at(team, place), libero);
                due.is("the libero is there by the sheet", x.atAnew(team, place), libero);
                x.serve(x.at(0, 1));
                x.fall(1);
                due.is("exchange back", x.exchange(team, goes), false);
                due.is("the other one is back", x.at(team, place), goes);
                due.is("the other one is back by the sheet", x.atAnew(team, place), goes);
                Due.wins(x, 0);
                due.is("exchange for another one", x.exchange(team, x.at(team, place % 6 == 0 ? 5 : place == 1 ? 6 : 1)), true);
            }
        }
    }

    private static void exchangeWrongly() {
        Rotationary ahead = new Rotationary();
        due.fails("exchange ahead of a set", Due.STATE, ahead, () -> Due.one(ahead.exchange(0, 1)));
        due.fails("exchange of no team, ahead of a set", Due.INDEX, ahead, () -> Due.one(ahead.exchange(2, 1)));
        Rotationary without = new Rotationary();
        Due.tellOrders(without);
        without.begin(0);
        for (int shirt = 1; shirt <= 20; shirt++) {
            int goes = shirt;
            due.fails("exchange without a libero", Due.STATE, without, () -> Due.one(without.exchange(0, goes)));
        }
        Rotationary x = Due.set();
        for (int team : new int[] {-1, 2}) {
            due.fails("exchange of no team", Due.INDEX, x, () -> Due.one(x.exchange(team, 1)));
        }
        for (int shirt : new int[] {-1, 0, 21}) {
            due.fails("exchange of no shirt", Due.INDEX, x, () -> Due.one(x.exchange(0, shirt)));
        }
        for (int shirt : new int[] {2, 3, 4, 7, 8, 11}) {
            due.fails("exchange of one who is not behind", Due.STATE, x, () -> Due.one(x.exchange(0, shirt)));
        }
        x.serve(1);
        due.fails("exchange in a rally", Due.STATE, x, () -> Due.one(x.exchange(0, 1)));
        due.fails("exchange in a rally, of no shirt", Due.INDEX, x, () -> Due.one(x.exchange(0, 0)));
        x.fall(1);
        x.exchange(0, 6);
        Due.wins(x, 0);
        for (int shirt : new int[] {1, 2, 5, 7, 8, 17}) {
            due.fails("exchange back of another one", Due.STATE, x, () -> Due.one(x.exchange(0, shirt)));
        }
        due.is("exchange back", x.exchange(0, 6), false);
        Rotationary over = new Rotationary();
        Due.winsSet(over, 0);
        due.fails("exchange behind a set", Due.STATE, over, () -> Due.one(over.exchange(0, 1)));
    }

    private static void exchangeOnceWithoutARally() {
        Rotationary x = Due.set();
        x.exchange(0, 6);
        due.fails("exchange back without a rally", Due.STATE, x, () -> Due.one(x.exchange(0, 6)));
        due.is("exchange of the other team", x.exchange(1, 16), true);
        due.fails("exchange back of the other team", Due.STATE, x, () -> Due.one(x.exchange(1, 16)));
        x.substitute(0, 2, 8);
        due.fails("exchange behind a substitution", Due.STATE, x, () -> Due.one(x.exchange(0, 6)));
        x.serve(1);
        x.fall(1);
        due.is("exchange behind a rally", x.exchange(0, 6), false);
        due.fails("exchange again", Due.STATE, x, () -> Due.one(x.exchange(0, 6)));
        due.is("exchange back of the other team, behind a rally", x.exchange(1, 16), false);

        Rotationary find = Due.set();
        find.serve(2);
        find.fall(1);
        find.exchange(1, 15);
        due.is("find", find.find(), 1);
        due.is("the libero has gone at once", find.at(1, 4), 15);
        due.fails("find is no rally between", Due.STATE, find, () -> Due.one(find.exchange(1, 16)));
        due.is("the other team has not exchanged", find.exchange(0, 6), true);
        find.serve(12);
        find.fall(0);
        due.is("a rally between", find.exchange(1, 16), true);

        Rotationary last = new Rotationary();
        Due.winsSet(last, 0);
        Due.beginWithLiberos(last, 0);
        last.exchange(1, 11);
        Due.wins(last, 0, 24);
        due.is("exchange ahead of the last rally", last.exchange(1, 11), false);
        Due.wins(last, 0);
        Due.beginWithLiberos(last, 1);
        due.is("exchange in a new set", last.exchange(1, 11), true);

        Rotationary found = Due.set();
        Due.wins(found, 1, 24);
        Due.wins(found, 0, 2);
        found.serve(3);
        found.fall(1);
        due.is("exchange ahead of find", found.exchange(0, 1) && found.exchange(1, 11), true);
        due.is("find ends the set", found.find() == 1 && found.about(0) == 0, true);
        Due.beginWithLiberos(found, 0);
        due.is("exchange in the next set, without a rally between", found.exchange(0, 1), true);
        due.is("exchange of the other team likewise", found.exchange(1, 11), true);
    }

    private static void liberoRotates() {
        Rotationary x = Due.set();
        x.exchange(0, 6);
        Due.wins(x, 1);
        Due.wins(x, 0);
        due.order("once round", x, 0, 2, 3, 4, 5, 7, 1);
        Due.wins(x, 1);
        Due.wins(x, 0);
        due.order("the libero never rotates in front", x, 0, 3, 4, 5, 6, 1, 2);
        due.is("exchange at once behind that", x.exchange(0, 1), true);
        due.order("exchange at once behind that", x, 0, 3, 4, 5, 6, 7, 2);
        Due.wins(x, 1);
        Due.wins(x, 0);
        due.order("again", x, 0, 4, 5, 6, 1, 2, 3);
        due.fails("who is back in front does not come back", Due.STATE, x, () -> Due.one(x.exchange(0, 1)));

        Rotationary server = Due.set();
        server.exchange(0, 1);
        due.is("the libero serves", server.serve(7), true);
        server.fall(0);
        Due.wins(server, 0);
        due.order("the libero behind the service", server, 0, 2, 3, 4, 5, 6, 7);
    }

    // ---- substitute

    private static void substitute() {
        Rotationary x = Due.set();
        due.is("first", x.substitute(0, 1, 9), 1);
        due.order("first", x, 0, 9, 2, 3, 4, 5, 6);
        due.is("second", x.substitute(0, 4, 20), 2);
        due.order("second", x, 0, 9, 2, 3, 20, 5, 6);
        due.is("other team, with a shirt of the first one", x.substitute(1, 12, 1), 1);
        due.order("other team", x, 1, 11, 1, 13, 14, 15, 16);
        due.is("of(0, 0)", x.of(0, 0), 2);
        due.is("of(1, 0)", x.of(1, 0), 1);
        due.is("the one who came serves", x.serve(9), true);
        x.fall(0);
        due.is("back", x.substitute(0, 9, 1), 3);
        due.order("back", x, 0, 1, 2, 3, 20, 5, 6);
    }

    private static void substituteWrongly() {
        Rotationary ahead = new Rotationary();
        due.fails("substitute ahead of a set", Due.STATE, ahead, () -> ahead.substitute(0, 1, 8));
        due.fails("substitute of no team, ahead of a set", Due.INDEX, ahead, () -> ahead.substitute(2, 1, 8));
        Rotationary x = Due.set();
        for (int team : new int[] {-1, 2}) {
            due.fails("substitute of no team", Due.INDEX, x, () -> x.substitute(team, 1, 8));
        }
        for (int shirt : new int[] {-1, 0, 21}) {
            due.fails("substitute, no shirt goes", Due.INDEX, x, () -> x.substitute(0, shirt, 8));
            due.fails("substitute, no shirt comes", Due.INDEX, x, () -> x.substitute(0, 1, shirt));
        }
        due.fails("goes who is not on the court", Due.STATE, x, () -> x.substitute(0, 8, 9));
        due.fails("comes who is on the court", Due.STATE, x, () -> x.substitute(0, 1, 2));
        due.fails("comes who goes", Due.STATE, x, () -> x.substitute(0, 1, 1));
        due.fails("comes the libero", Due.STATE, x, () -> x.substitute(0, 1, 7));
        due.fails("goes the libero off the court", Due.STATE, x, () -> x.substitute(0, 7, 8));
        x.exchange(0, 6);
        due.fails("goes the libero", Due.STATE, x, () -> x.substitute(0, 7, 8));
        due.fails("comes the libero on the court", Due.STATE, x, () -> x.substitute(0, 1, 7));
        due.fails("comes who went for the libero", Due.STATE, x, () -> x.substitute(0, 1, 6));
        due.fails("goes who went for the libero", Due.STATE, x, () -> x.substitute(0, 6, 8));
        x.serve(1);
        due.fails("substitute in a rally", Due.STATE, x, () -> x.substitute(0, 1, 8));
        due.fails("substitute in a rally, no shirt", Due.INDEX, x, () -> x.substitute(0, 1, 0));
        x.fall(1);
        x.exchange(0, 6);
        due.is("goes who came back for the libero", x.substitute(0, 6, 8), 1);
        Rotationary over = new Rotationary();
        Due.winsSet(over, 0);
        due.fails("substitute behind a set", Due.STATE, over, () -> over.substitute(0, 1, 8));
    }

    private static void substituteByPairs() {
        Rotationary x = Due.set();
        x.substitute(0, 4, 9);
        due.fails("the one who came goes for a third", Due.STATE, x, () -> x.substitute(0, 9, 8));
        due.fails("the one who went comes for a third", Due.STATE, x, () -> x.substitute(0, 3, 4));
        due.is("the other one back", x.substitute(0, 9, 4), 2);
        due.fails("the pair once more", Due.STATE, x, () -> x.substitute(0, 4, 9));
        due.fails("the one of the pair goes for a third", Due.STATE, x, () -> x.substitute(0, 4, 8));
        due.fails("the other of the pair comes for a third", Due.STATE, x, () -> x.substitute(0, 3, 9));
        due.is("another pair", x.substitute(0, 3, 8), 3);
        due.fails("one of each pair", Due.STATE, x, () -> x.substitute(0, 8, 9));
        due.is("the pair of the same shirts in the other team", x.substitute(1, 14, 9), 1);
        Due.wins(x, 0, 25);
        Due.beginWithLiberos(x, 0);
        due.is("no substitutions in a new set", x.of(0, 0), 0);
        due.is("no pairs in a new set", x.substitute(0, 4, 8), 1);
        due.is("a pair with the last shirt", x.substitute(0, 3, 20), 2);
        Due.wins(x, 0, 25);
        Due.beginWithLiberos(x, 0);
        due.is("the last shirt in a new set", x.substitute(0, 1, 20), 1);

        Rotationary y = Due.set();
        y.substitute(0, 6, 8);
        due.is("one of a pair goes for the libero", y.exchange(0, 8), true);
        due.fails("the other one does not come for the libero", Due.STATE, y, () -> y.substitute(0, 7, 6));
        due.fails("the other one does not come for a third", Due.STATE, y, () -> y.substitute(0, 1, 6));
        Due.wins(y, 0);
        y.exchange(0, 8);
        due.is("the other one comes back", y.substitute(0, 8, 6), 2);
    }

    private static void substituteSixTimes() {
        Rotationary x = Due.set();
        for (int place = 1; place <= 6; place++) {
            due.is("substitution " + place, x.substitute(0, place, 7 + place), place);
        }
        due.fails("a seventh", Due.STATE, x, () -> x.substitute(0, 8, 1));
        due.is("the first of the other team", x.substitute(1, 11, 1), 1);
        due.is("six stay", x.of(0, 0), 6);
        Rotationary y = Due.set();
        for (int place = 1; place <= 3; place++) {
            due.is("goes", y.substitute(1, 10 + place, place), 2 * place - 1);
            due.is("comes back", y.substitute(1, place, 10 + place), 2 * place);
        }
        due.fails("a seventh behind those who came back", Due.STATE, y, () -> y.substitute(1, 14, 4));
    }

    // ---- challenge

    private static void challengeInVain() {
        Rotationary x = Due.set();
        due.fails("challenge without a rally", Due.STATE, x, () -> Due.one(x.challenge(0)));
        Due.wins(x, 0);
        due.fails("challenge by no team", Due.INDEX, x, () -> Due.one(x.challenge(2)));
        due.fails("challenge by team NONE", Due.INDEX, x, () -> Due.one(x.challenge(NONE)));
        due.fails("challenge by the winner", Due.STATE, x, () -> Due.one(x.challenge(0)));
        due.is("challenge in vain", x.challenge(1), false);
        due.is("one is left", x.of(1, 1), 1);
        due.is("the other team has both", x.of(0, 1), 2);
        due.is("as it ended", x.about(3), Rotationary.FALL);
        due.score("as it ended", x, 1, 0);
        due.fails("a challenge is told, too", Due.STATE, x, () -> Due.one(x.challenge(1)));
        x.serve(1);
        due.fails("challenge in a rally", Due.STATE, x, () -> Due.one(x.challenge(1)));
        x.net(1, false);
        x.fall(1);
        due.is("own net touch", x.challenge(1), false);
        due.is("none is left", x.of(1, 1), 0);
        x.serve(1);
        x.net(0, false);
        x.fall(1);
        due.fails("with none left it may not", Due.STATE, x, () -> Due.one(x.challenge(1)));
        due.fails("with none left, by no team", Due.INDEX, x, () -> Due.one(x.challenge(-1)));
        Due.wins(x, 0);
        due.fails("nor behind another rally", Due.STATE, x, () -> Due.one(x.challenge(1)));
        Due.wins(x, 0, 21);
        Due.beginWithLiberos(x, 0);
        due.is("both in a new set", x.of(1, 1), 2);
        x.serve(1);
        x.fall(1);
        due.is("the net touch of an earlier rally", x.challenge(1), false);
        x.serve(1);
        x.net(1, false);
        x.fall(1);
        x.serve(1);
        x.fall(0);
        due.is("the net touch of the other team in an earlier rally", x.challenge(0), false);
    }

    private static void challengeThatTurns() {
        Rotationary x = Due.set();
        x.exchange(0, 5);
        Due.wins(x, 1);
        x.serve(12);
        x.net(1, false);
        x.touch(0, 2, Rotationary.PASS, false);
        x.fall(Rotationary.NONE);
        due.score("ahead of the challenge", x, 0, 2);
        due.fails("challenge by the winner", Due.STATE, x, () -> Due.one(x.challenge(1)));
        due.is("challenge", x.challenge(0), true);
        due.score("turned", x, 1, 1);
        due.is("turned: how it ended", x.about(3), Rotationary.NET);
        due.is("turned: who serves", x.about(2), 0);
        due.is("turned: none used up", x.of(0, 1), 2);
        due.order("turned: who rotates, and the libero", x, 0, 2, 3, 4, 5, 6, 1);
        due.order("turned: who does not", x, 1, 12, 13, 14, 15, 16, 11);
        due.losses("turned", x, 0, 1, 0, 0, 0, 0, 0);
        due.losses("turned", x, 1, 0, 1, 0, 0, 0, 0);
        due.fails("challenge of the challenge", Due.STATE, x, () -> Due.one(x.challenge(1)));
        due.fails("challenge once more", Due.STATE, x, () -> Due.one(x.challenge(0)));

        Rotationary back = Due.set();
        back.exchange(1, 15);
        back.serve(1);
        back.net(1, false);
        back.net(0, false);
        back.net(0, true);
        due.order("the libero has gone", back, 1, 12, 13, 14, 15, 16, 11);
        due.is("both have touched the net", back.challenge(0), true);
        due.order("the libero is back", back, 1, 11, 12, 13, 14, 17, 16);
        due.score("the libero is back", back, 1, 0);
        due.is("who serves", back.about(2), 0);
        due.is("and goes again", back.exchange(1, 15), false);
        due.losses("turned to who served", back, 0, 0, 0, 0, 0, 0, 0);
        due.losses("turned to who served", back, 1, 1, 0, 0, 0, 0, 0);

        Rotationary again = Due.set();
        again.serve(1);
        again.net(1, false);
        again.net(0, false);
        again.fall(0);
        due.is("turned where both have touched", again.challenge(0), true);
        due.fails("not turned again", Due.STATE, again, () -> Due.one(again.challenge(1)));
    }

    private static void challengeAfterSomethingTold() {
        for (int told = 0; told <= 6; told++) {
            Rotationary x = Due.set();
            x.serve(2);
            x.net(0, false);
            x.fall(1);
            boolean isTold = true;
            switch (told) {
                case 0: x.serve(1); break;
                case 1: x.find(); break;
                case 2: x.exchange(0, 1); break;
                case 3: x.exchange(1, 11); break;
                case 4: x.substitute(0, 1, 8); break;
                case 5: x.substitute(1, 11, 8); break;
                default: isTold = false; wrongCalls(x); break;
            }
            if (isTold) {
                due.fails("challenge behind something told " + told, Due.STATE, x, () -> Due.one(x.challenge(1)));
            } else {
                due.is("challenge behind questions and wrong calls", x.challenge(1), true);
            }
        }
        for (int told = 0; told <= 2; told++) {
            Rotationary x = Due.set();
            Due.wins(x, 0, 24);
            if (told == 2) {
                Due.wins(x, 0);
                Due.beginWithLiberos(x, 0);
            } else {
                Due.wins(x, 0);
                int before = told == 0 ? x.line(1, 1, 1) : x.libero(0, 1);
                due.is("none was told", before, NONE);
            }
            due.fails("challenge behind something told ahead of a set", Due.STATE, x, () -> Due.one(x.challenge(1)));
        }
    }

    private static void wrongCalls(Rotationary x) {
        due.fails("line", Due.STATE, x, () -> x.line(0, 1, 1));
        due.fails("libero", Due.STATE, x, () -> x.libero(0, 1));
        due.fails("begin", Due.STATE, x, () -> x.begin(0));
        due.fails("serve", Due.STATE, x, () -> Due.one(x.serve(20)));
        due.fails("touch", Due.STATE, x, () -> x.touch(0, 1, 0, false));
        due.fails("fall", Due.STATE, x, () -> x.fall(0));
        due.fails("net", Due.STATE, x, () -> Due.one(x.net(1, false)));
        due.fails("exchange", Due.STATE, x, () -> Due.one(x.exchange(0, 2)));
        due.fails("substitute", Due.STATE, x, () -> x.substitute(0, 1, 2));
        due.fails("challenge", Due.STATE, x, () -> Due.one(x.challenge(0)));
        due.fails("at", Due.INDEX, x, () -> x.at(0, 0));
    }

    private static void challengeTheEndOfASet() {
        Rotationary x = Due.set();
        x.substitute(0, 1, 8);
        Due.wins(x, 1, 23);
        Due.wins(x, 0, 24);
        x.exchange(1, 11);
        x.serve(2);
        x.net(0, false);
        x.fall(1);
        due.is("the set is over", x.sets(0), 1);
        due.is("how it ended", x.about(3), Rotationary.FALL);
        due.score("the last set", x, 25, 23);
        due.losses("the last set", x, 0, 23, 0, 0, 0, 0, 0);
        due.losses("the last set", x, 1, 0, 25, 0, 0, 0, 0);
        due.is("challenge the end of a set", x.challenge(1), true);
        due.is("the set goes on", x.about(0), 1);
        due.is("sets", x.sets(0), 0);
        due.score("the set goes on", x, 24, 24);
        due.is("who serves", x.about(2), 1);
        due.is("how it ended then", x.about(3), Rotationary.NET);
        due.order("the order is back", x, 0, 2, 3, 4, 5, 6, 8);
        due.fails("line in the set", Due.STATE, x, () -> x.line(0, 1, 1));
        due.is("substitutions are back", x.of(0, 0), 1);
        due.is("pairs are back", x.substitute(0, 8, 1), 2);
        due.order("the libero is back, and rotates", x, 1, 13, 14, 15, 16, 17, 12);
        Due.wins(x, 0);
        Due.wins(x, 1);
        due.order("the libero is still known", x, 1, 14, 15, 16, 11, 12, 13);
        Due.wins(x, 1);
        due.is("26 to 25", x.about(0), 1);
        Due.wins(x, 1);
        due.is("the set is over then", x.sets(1), 1);
        due.score("the set is over then", x, 25, 27);

        Rotationary vain = new Rotationary();
        Due.winsSet(vain, 0);
        due.fails("the winner of a set", Due.STATE, vain, () -> Due.one(vain.challenge(0)));
        due.is("in vain behind a set", vain.challenge(1), false);
        due.is("the set stays over", vain.sets(0), 1);
        due.is("one of the last set is left", vain.of(1, 1), 1);
        due.fails("in vain again", Due.STATE, vain, () -> Due.one(vain.challenge(1)));
        Due.beginWithLiberos(vain, 0);
        due.is("two of the new set", vain.of(1, 1), 2);

        Rotationary ends = Due.set();
        Due.wins(ends, 0, 24);
        ends.serve(1);
        ends.net(1, false);
        ends.fall(0);
        due.is("a challenge that ends a set", ends.challenge(0), true);
        due.is("the set is won", ends.sets(0), 1);
        due.score("the set is won", ends, 25, 0);
        due.is("how it ended", ends.about(3), Rotationary.NET);
        due.order("no order", ends, 0, NONE, NONE, NONE, NONE, NONE, NONE);
        due.fails("not challenged again", Due.STATE, ends, () -> Due.one(ends.challenge(1)));
    }

    private static void challengeTheEndOfTheMatch() {
        Rotationary x = new Rotationary();
        for (int set = 1; set <= 2; set++) {
            Due.winsSet(x, 1);
        }
        Due.beginWithLiberos(x, 1);
        Due.wins(x, 1, 24);
        x.serve(11);
        x.net(1, false);
        x.fall(0);
        due.is("the match is over", x.sets(1), 3);
        due.fails("line then", Due.STATE, x, () -> x.line(0, 1, 1));
        due.is("challenge the end of a match", x.challenge(0), true);
        due.is("the match goes on", x.sets(1), 2);
        due.score("the match goes on", x, 1, 24);
        due.order("the match goes on", x, 0, 2, 3, 4, 5, 6, 1);
        due.is("serve then", x.serve(2), true);
    }

    private static void challengeAndOutOfOrder() {
        Rotationary x = Due.set();
        x.serve(3);
        x.net(1, false);
        x.fall(0);
        due.fails("the service has gone", Due.STATE, x, x::find);
        due.is("turned", x.challenge(0), true);
        due.is("the service is back, so it is found", x.find(), 1);
        due.score("found", x, 0, 1);

        Rotationary y = Due.set();
        y.serve(3);
        y.net(0, false);
        y.fall(1);
        due.is("turned", y.challenge(1), true);
        due.fails("turned: the service has gone", Due.STATE, y, y::find);

        Rotationary z = Due.set();
        z.serve(3);
        z.fall(1);
        z.challenge(1);
        due.is("found behind a challenge in vain", z.find(), 1);

        Rotationary u = Due.set();
        Due.wins(u, 0, 24);
        u.serve(3);
        u.net(0, false);
        u.fall(1);
        due.fails("no set, none is found", Due.STATE, u, u::find);
        due.is("turned", u.challenge(1), true);
        due.fails("turned: none is found", Due.STATE, u, u::find);
    }
}
