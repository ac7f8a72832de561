import java.util.ArrayList;
import java.util.Arrays;
import java.util.Collections;
import java.util.HashMap;
import java.util.HashSet;
import java.util.List;
import java.util.Map;
import java.util.Set;

/**
 * The document written a second time, for ModelTest: every rally keeps its own list of touches, a set its list of
 * rallies, and a challenge takes a copy of the whole state from ahead of the rally's end. It shares nothing with the program.
 */
final class Model {
    private record Touch(int team, int shirt, int kind) {}
    private record Loss(int team, int rotations) {}
    private record Pair(int went, int came, boolean isBack) {}

    /** All that there is to know, copied as a whole. */
    private static final class State {
        int[][] places = {{-1, -1, -1, -1, -1, -1}, {-1, -1, -1, -1, -1, -1}};
        int[] libero = {-1, -1};
        int[] replaced = {-1, -1};
        int[] points = {0, 0};
        int[] sets = {0, 0};
        int[] rotations = {0, 0};
        int[] substitutions = {0, 0};
        int[] challenges = {2, 2};
        boolean[] exchanged = {false, false};
        List<List<Pair>> pairs = List.of(new ArrayList<>(), new ArrayList<>());
        List<Loss> losses = new ArrayList<>();
        // For each point won since the team serves: whether a service out of order had been made by then.
        List<Boolean> turn = new ArrayList<>();
        boolean isWrong;
        boolean isSet;
        int serving = -1;
        int ended;
        List<Touch> rally;
        Set<Integer> netNoted = new HashSet<>();

        State copy() {
            State c = new State();
            for (int t = 0; t < 2; t++) {
                c.places[t] = places[t].clone();
                c.pairs.get(t).addAll(pairs.get(t));
            }
            c.libero = libero.clone();
            c.replaced = replaced.clone();
            c.points = points.clone();
            c.sets = sets.clone();
            c.rotations = rotations.clone();
            c.substitutions = substitutions.clone();
            c.challenges = challenges.clone();
            c.exchanged = exchanged.clone();
            c.losses = new ArrayList<>(losses);
            c.turn = new ArrayList<>(turn);
            c.isWrong = isWrong;
            c.isSet = isSet;
            c.serving = serving;
            c.ended = ended;
            c.rally = rally == null ? null : new ArrayList<>(rally);
            c.netNoted = new HashSet<>(netNoted);
            return c;
        }

        int placeOf(int team, int shirt) {
            for (int i = 0; i < 6; i++) {
                if (places[team][i] == shirt) {
                    return i + 1;
                }
            }
            return 0;
        }
    }

    static final class Wrong extends RuntimeException {
        private static final long serialVersionUID = 1;
        final Class<? extends RuntimeException> due;

        Wrong(Class<? extends RuntimeException> due) {
            this.due = due;
        }
    }

    private State now = new State();
    private State aheadOfEnd;

    private static void index(boolean isThere) {
        if (!isThere) {
            throw new Wrong(IndexOutOfBoundsException.class);
        }
    }

    private static void argument(boolean isInRange) {
        if (!isInRange) {
            throw new Wrong(IllegalArgumentException.class);
        }
    }

    private static void state(boolean isSo) {
        if (!isSo) {
            throw new Wrong(IllegalStateException.class);
        }
    }

    private static void team(int team) {
        index(team == 0 || team == 1);
    }

    private static void place(int place) {
        index(1 <= place && place <= 6);
    }

    private static void shirt(int shirt) {
        index(1 <= shirt && shirt <= 20);
    }

    private boolean isOver() {
        return now.sets[0] > 2 || now.sets[1] > 2;
    }

    int line(int team, int place, int shirt) {
        team(team);
        place(place);
        shirt(shirt);
        state(!now.isSet && !isOver());
        aheadOfEnd = null;
        int before = now.places[team][place - 1];
        now.places[team][place - 1] = shirt;
        return before;
    }

    int libero(int team, int shirt) {
        team(team);
        shirt(shirt);
        state(!now.isSet && !isOver());
        aheadOfEnd = null;
        int before = now.libero[team];
        now.libero[team] = shirt;
        return before;
    }

    int begin(int team) {
        team(team);
        state(!now.isSet && !isOver());
        for (int t = 0; t < 2; t++) {
            Set<Integer> all = new HashSet<>();
            for (int shirt : now.places[t]) {
                state(shirt != -1 && all.add(shirt));
            }
            state(!all.contains(now.libero[t]));
        }
        aheadOfEnd = null;
        State fresh = new State();
        fresh.places = now.places;
        fresh.libero = now.libero;
        fresh.sets = now.sets;
        fresh.isSet = true;
        fresh.serving = team;
        now = fresh;
        return 1 + now.sets[0] + now.sets[1];
    }

    boolean serve(int shirt) {
        shirt(shirt);
        state(now.isSet && now.rally == null && now.placeOf(now.serving, shirt) > 0);
        aheadOfEnd = null;
        boolean isInOrder = now.placeOf(now.serving, shirt) == 1;
        now.isWrong |= !isInOrder;
        now.rally = new ArrayList<>(List.of(new Touch(now.serving, shirt, -1)));
        now.netNoted.clear();
        Arrays.fill(now.exchanged, false);
        return isInOrder;
    }

    int touch(int team, int shirt, int kind, boolean inFront) {
        team(team);
        shirt(shirt);
        argument(0 <= kind && kind <= 2);
        state(now.rally != null && now.placeOf(team, shirt) > 0);
        int fault = fault(team, shirt, kind, inFront);
        if (fault == 0) {
            now.rally.add(new Touch(team, shirt, kind));
        } else {
            end(1 - team, fault);
        }
        return fault;
    }

    private int fault(int team, int shirt, int kind, boolean inFront) {
        Touch last = now.rally.get(now.rally.size() - 1);
        if (now.rally.size() == 1 && team == now.serving) {
            return 1;
        }
        if (last.team == team && last.shirt == shirt && last.kind != 2) {
            return 2;
        }
        int inARow = 0;
        for (int i = now.rally.size() - 1; i > 0; i--) {
            Touch touch = now.rally.get(i);
            if (touch.team != team || touch.kind == 2) {
                break;
            }
            inARow++;
        }
        if (kind != 2 && inARow >= 3) {
            return 3;
        }
        boolean isBehind = List.of(1, 5, 6).contains(now.placeOf(team, shirt));
        if (isBehind && kind == 2 || isBehind && kind == 1 && inFront) {
            return 4;
        }
        return kind == 1 && shirt == now.libero[team] ? 5 : 0;
    }

    int fall(int team) {
        index(team >= -1 && team <= 1);
        state(now.rally != null);
        int winner = 1 - (team >= 0 ? team : now.rally.get(now.rally.size() - 1).team);
        end(winner, team >= 0 ? 6 : 7);
        return winner;
    }

    boolean net(int team, boolean isSeen) {
        team(team);
        state(now.rally != null);
        if (isSeen) {
            end(1 - team, 8);
        } else {
            now.netNoted.add(team);
        }
        return isSeen;
    }

    private void end(int winner, int how) {
        aheadOfEnd = now.copy();
        now.losses.add(new Loss(1 - winner, now.rotations[1 - winner]));
        now.rally = null;
        now.ended = how;
        point(winner);
    }

    private void point(int winner) {
        now.points[winner]++;
        if (winner == now.serving) {
            now.turn.add(now.isWrong);
        } else {
            now.turn.clear();
            now.isWrong = false;
            now.serving = winner;
            rotate(winner);
        }
        int enough = now.sets[0] == 2 && now.sets[1] == 2 ? 15 : 25;
        if (now.points[winner] >= enough && now.points[winner] - now.points[1 - winner] >= 2) {
            now.sets[winner]++;
            now.isSet = false;
            now.serving = -1;
            now.isWrong = false;
            now.turn.clear();
            now.places = new State().places;
            now.libero = new int[] {-1, -1};
            now.replaced = new int[] {-1, -1};
        }
    }

    private void rotate(int team) {
        List<Integer> order = new ArrayList<>();
        for (int shirt : now.places[team]) {
            order.add(shirt);
        }
        Collections.rotate(order, -1);
        for (int i = 0; i < 6; i++) {
            now.places[team][i] = order.get(i);
        }
        now.rotations[team]++;
        if (now.libero[team] != -1 && now.places[team][3] == now.libero[team]) {
            now.places[team][3] = now.replaced[team];
            now.replaced[team] = -1;
        }
    }

    int find() {
        state(now.isSet && now.rally == null && now.isWrong);
        aheadOfEnd = null;
        int taken = Collections.frequency(now.turn, true);
        now.points[now.serving] -= taken;
        now.ended = 9;
        point(1 - now.serving);
        return taken;
    }

    boolean exchange(int team, int shirt) {
        team(team);
        shirt(shirt);
        state(now.isSet && now.rally == null && now.libero[team] != -1 && !now.exchanged[team]);
        int liberoAt = now.placeOf(team, now.libero[team]);
        int shirtAt = now.placeOf(team, shirt);
        if (liberoAt == 0) {
            state(shirtAt == 1 || shirtAt == 5 || shirtAt == 6);
            now.places[team][shirtAt - 1] = now.libero[team];
            now.replaced[team] = shirt;
        } else {
            state(shirt == now.replaced[team]);
            now.places[team][liberoAt - 1] = shirt;
            now.replaced[team] = -1;
        }
        aheadOfEnd = null;
        now.exchanged[team] = true;
        return liberoAt == 0;
    }

    int substitute(int team, int goes, int comes) {
        team(team);
        shirt(goes);
        shirt(comes);
        state(now.isSet && now.rally == null && now.substitutions[team] < 6);
        int at = now.placeOf(team, goes);
        state(at > 0 && goes != now.libero[team]);
        state(now.placeOf(team, comes) == 0 && comes != now.libero[team] && comes != now.replaced[team]);
        List<Pair> pairs = now.pairs.get(team);
        Map<Integer, Pair> byShirt = new HashMap<>();
        for (Pair pair : pairs) {
            byShirt.put(pair.went, pair);
            byShirt.put(pair.came, pair);
        }
        Pair back = new Pair(comes, goes, false);
        if (pairs.remove(back)) {
            pairs.add(new Pair(comes, goes, true));
        } else {
            state(!byShirt.containsKey(goes) && !byShirt.containsKey(comes));
            pairs.add(new Pair(goes, comes, false));
        }
        aheadOfEnd = null;
        now.places[team][at - 1] = comes;
        return ++now.substitutions[team];
    }

    boolean challenge(int team) {
        team(team);
        state(aheadOfEnd != null && now.losses.get(now.losses.size() - 1).team == team && now.challenges[team] > 0);
        boolean isTurned = aheadOfEnd.netNoted.contains(1 - team);
        if (isTurned) {
            now = aheadOfEnd;
            end(team, 8);
        } else {
            now.challenges[team]--;
        }
        aheadOfEnd = null;
        return isTurned;
    }

    int points(int team) {
        team(team);
        return now.points[team];
    }

    int sets(int team) {
        team(team);
        return now.sets[team];
    }

    int at(int team, int place) {
        team(team);
        place(place);
        return now.places[team][place - 1];
    }

    int atAnew(int team, int place) {
        team(team);
        place(place);
        return now.isSet ? now.places[team][place - 1] : -1;
    }

    int about(int what) {
        argument(0 <= what && what <= 4);
        int last = now.rally == null ? -1 : now.rally.get(now.rally.size() - 1).shirt;
        return new int[] {now.isSet ? 1 : 0, now.rally == null ? 0 : 1, now.serving, now.ended, last}[what];
    }

    int of(int team, int what) {
        team(team);
        argument(what == 0 || what == 1);
        return (what == 0 ? now.substitutions : now.challenges)[team];
    }

    int lost(int team, int rotations) {
        team(team);
        argument(0 <= rotations && rotations <= 5);
        int count = 0;
        for (Loss loss : now.losses) {
            if (loss.team == team && loss.rotations % 6 == rotations) {
                count++;
            }
        }
        return count;
    }
}
