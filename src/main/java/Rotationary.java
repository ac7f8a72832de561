/** The game over the net: orders of six, rallies, sets and a match, as ../shared/DOC.md promises it. */
public final class Rotationary {
    public static final int NONE = -1;
    public static final int PASS = 0, ATTACK = 1, BLOCK = 2;
    public static final int OWN = 1, TWICE = 2, FOURTH = 3, ROW = 4, LIBERO = 5, FALL = 6, OUT = 7, NET = 8, ORDER = 9;

    private static final int PLACES = 6, SHIRTS = 20;
    private static final int POINTS_OF_A_SET = 25, POINTS_OF_THE_FIFTH = 15, AHEAD_BY = 2, SETS_OF_A_MATCH = 3;
    private static final int SUBSTITUTIONS_OF_A_SET = 6, CHALLENGES_OF_A_SET = 2;

    private final Court court = new Court();
    private final Court courtAheadOfEnd = new Court();
    private final Rally rally = new Rally();
    private final Sheet sheet = new Sheet();
    private final Reader reader = new Reader();
    private int signsAheadOfEnd;
    // Who lost the last rally, as long as nothing was told since: only this team may challenge.
    private int loser = NONE;
    private int lastEnd;

    public Rotationary() {
    }

    // ---- ahead of sets

    public int line(int team, int place, int shirt) throws IndexOutOfBoundsException, IllegalStateException {
        checkTeam(team);
        checkPlace(place);
        checkShirt(shirt);
        checkAheadOfSet();
        Side side = court.sideOf(team);
        int before = side.shirtIn(place);
        side.put(place, shirt);
        loser = NONE;
        return before;
    }

    public int libero(int team, int shirt) throws IndexOutOfBoundsException, IllegalStateException {
        checkTeam(team);
        checkShirt(shirt);
        checkAheadOfSet();
        Side side = court.sideOf(team);
        int before = side.libero;
        side.libero = shirt;
        loser = NONE;
        return before;
    }

    public int begin(int team) throws IndexOutOfBoundsException, IllegalStateException {
        checkTeam(team);
        checkAheadOfSet();
        if (!court.first.isReady() || !court.second.isReady()) {
            throw new IllegalStateException("the orders are not as told");
        }
        court.startSet(team);
        sheet.cutTo(0);
        writeOrder(0);
        writeOrder(1);
        sheet.write(Sheet.START, team, 0, 0);
        loser = NONE;
        lastEnd = 0;
        return court.setsPlayed() + 1;
    }

    // ---- rallies

    public boolean serve(int shirt) throws IndexOutOfBoundsException, IllegalStateException {
        checkShirt(shirt);
        checkBetweenRallies();
        int team = court.server;
        if (court.sideOf(team).placeOf(shirt) == NONE) {
            throw new IllegalStateException("the shirt is not on the court");
        }
        sheet.write(Sheet.SERVICE, team, shirt, 0);
        rally.start(team, shirt);
        loser = NONE;
        return court.takeService(shirt);
    }

    public int touch(int team, int shirt, int kind, boolean inFront)
            throws IndexOutOfBoundsException, IllegalArgumentException, IllegalStateException {
        checkTeam(team);
        checkShirt(shirt);
        if (kind < PASS || kind > BLOCK) {
            throw new IllegalArgumentException("no such touch");
        }
        checkRally();
        Side side = court.sideOf(team);
        if (side.placeOf(shirt) == NONE) {
            throw new IllegalStateException("the shirt is not on the court");
        }
        int fault = rally.faultOf(team, shirt, kind);
        if (fault == 0) {
            fault = side.faultOf(shirt, kind, inFront);
        }
        if (fault == 0) {
            rally.note(team, shirt, kind);
        } else {
            endRally(1 - team, fault);
        }
        return fault;
    }

    public int fall(int team) throws IndexOutOfBoundsException, IllegalStateException {
        if (team != NONE) {
            checkTeam(team);
        }
        checkRally();
        int losing = team == NONE ? rally.team : team;
        endRally(1 - losing, team == NONE ? OUT : FALL);
        return 1 - losing;
    }

    public boolean net(int team, boolean isSeen) throws IndexOutOfBoundsException, IllegalStateException {
        checkTeam(team);
        checkRally();
        if (isSeen) {
            endRally(1 - team, NET);
        } else {
            rally.noteNet(team);
        }
        return isSeen;
    }

    // ---- between rallies

    public int find() throws IllegalStateException {
        if (rally.isOn || court.pointsAheadOfWrong == NONE) {
            throw new IllegalStateException("nothing can be found");
        }
        sheet.write(Sheet.FOUND, court.server, 0, 0);
        int taken = court.takeBack();
        endSetIfWonBy(court.server);
        loser = NONE;
        lastEnd = ORDER;
        return taken;
    }

    public boolean exchange(int team, int shirt) throws IndexOutOfBoundsException, IllegalStateException {
        checkTeam(team);
        checkShirt(shirt);
        checkBetweenRallies();
        Side side = court.sideOf(team);
        if (!side.canExchange(shirt)) {
            throw new IllegalStateException("it cannot be exchanged");
        }
        sheet.write(Sheet.EXCHANGE, team, shirt, 0);
        side.swapLibero(shirt);
        loser = NONE;
        return side.isLiberoIn();
    }

    public int substitute(int team, int goes, int comes) throws IndexOutOfBoundsException, IllegalStateException {
        checkTeam(team);
        checkShirt(goes);
        checkShirt(comes);
        checkBetweenRallies();
        Side side = court.sideOf(team);
        if (!side.canSubstitute(goes, comes)) {
            throw new IllegalStateException("it cannot be substituted");
        }
        sheet.write(Sheet.SUBSTITUTION, team, goes, comes);
        side.swapByPair(goes, comes);
        loser = NONE;
        return side.substitutions;
    }

    public boolean challenge(int team) throws IndexOutOfBoundsException, IllegalStateException {
        checkTeam(team);
        Side side = court.sideOf(team);
        if (loser != team || side.challenges == 0) {
            throw new IllegalStateException("the team may not challenge");
        }
        boolean isTurned = rally.isNetNotedOf(1 - team);
        if (isTurned) {
            court.copyFrom(courtAheadOfEnd);
            sheet.cutTo(signsAheadOfEnd);
            endRally(team, NET);
        } else {
            side.challenges--;
        }
        // A challenge is told too: the end that it makes is not challenged again.
        loser = NONE;
        return isTurned;
    }

    // ---- questions

    public int points(int team) throws IndexOutOfBoundsException {
        checkTeam(team);
        return court.sideOf(team).points;
    }

    public int pointsAnew(int team) throws IndexOutOfBoundsException {
        checkTeam(team);
        reader.read(sheet);
        return reader.court.sideOf(team).points;
    }

    public int sets(int team) throws IndexOutOfBoundsException {
        checkTeam(team);
        return court.sideOf(team).sets;
    }

    public int at(int team, int place) throws IndexOutOfBoundsException {
        checkTeam(team);
        checkPlace(place);
        return court.sideOf(team).shirtIn(place);
    }

    public int atAnew(int team, int place) throws IndexOutOfBoundsException {
        checkTeam(team);
        checkPlace(place);
        if (!court.isSetOn()) {
            return NONE;
        }
        reader.read(sheet);
        return reader.court.sideOf(team).shirtIn(place);
    }

    public int about(int what) throws IllegalArgumentException {
        switch (what) {
            case 0:
                return court.isSetOn() ? 1 : 0;
            case 1:
                return rally.isOn ? 1 : 0;
            case 2:
                return court.server;
            case 3:
                return lastEnd;
            case 4:
                return rally.isOn ? rally.shirt : NONE;
            default:
                throw new IllegalArgumentException("nothing is told about this");
        }
    }

    public int of(int team, int what) throws IndexOutOfBoundsException, IllegalArgumentException {
        checkTeam(team);
        if (what < 0 || what > 1) {
            throw new IllegalArgumentException("nothing is told of this");
        }
        Side side = court.sideOf(team);
        return what == 0 ? side.substitutions : side.challenges;
    }

    public int lost(int team, int rotations) throws IndexOutOfBoundsException, IllegalArgumentException {
        checkTeam(team);
        if (rotations < 0 || rotations >= PLACES) {
            throw new IllegalArgumentException("no such remainder");
        }
        reader.read(sheet);
        return reader.lostBy(team, rotations);
    }

    // ---- what the calls share

    private static void checkTeam(int team) {
        if (team < 0 || team > 1) {
            throw new IndexOutOfBoundsException("no such team");
        }
    }

    private static void checkPlace(int place) {
        if (place < 1 || place > PLACES) {
            throw new IndexOutOfBoundsException("no such place");
        }
    }

    private static void checkShirt(int shirt) {
        if (shirt < 1 || shirt > SHIRTS) {
            throw new IndexOutOfBoundsException("no such shirt");
        }
    }

    private void checkAheadOfSet() {
        if (court.isSetOn() || court.isMatchOver()) {
            throw new IllegalStateException("a set goes on, or the match is over");
        }
    }

    private void checkBetweenRallies() {
        if (!court.isSetOn() || rally.isOn) {
            throw new IllegalStateException("no set goes on, or a rally goes on");
        }
    }

    private void checkRally() {
        if (!rally.isOn) {
            throw new IllegalStateException("no rally goes on");
        }
    }

    private void writeOrder(int team) {
        Side side = court.sideOf(team);
        for (int place = 1; place <= PLACES; place++) {
            sheet.write(Sheet.PLACE, team, place, side.shirtIn(place));
        }
        if (side.libero != NONE) {
            sheet.write(Sheet.FREE, team, side.libero, 0);
        }
    }

    private void endRally(int winner, int end) {
        courtAheadOfEnd.copyFrom(court);
        signsAheadOfEnd = sheet.length;
        rally.isOn = false;
        sheet.write(Sheet.WON, winner, 0, 0);
        court.givePoint(winner);
        endSetIfWonBy(winner);
        loser = 1 - winner;
        lastEnd = end;
    }

    private void endSetIfWonBy(int team) {
        if (court.hasWonSet(team)) {
            court.endSet(team);
        }
    }

    private static int valueIn(int[] row, int index) {
        return index >= 0 && index < row.length ? row[index] : NONE;
    }

    private static void putIn(int[] row, int index, int value) {
        if (index >= 0 && index < row.length) {
            row[index] = value;
        }
    }

    /** Both teams and who serves: all that the end of a rally may change, so that it can be kept and put back. */
    private static final class Court {
        private final Side first = new Side();
        private final Side second = new Side();
        private int server = NONE;
        // The points of who serves, ahead of the first service out of order since it serves.
        private int pointsAheadOfWrong = NONE;

        Side sideOf(int team) {
            return team == 1 ? second : first;
        }

        boolean isSetOn() {
            return server != NONE;
        }

        boolean isMatchOver() {
            return first.sets == SETS_OF_A_MATCH || second.sets == SETS_OF_A_MATCH;
        }

        int setsPlayed() {
            return first.sets + second.sets;
        }

        void startSet(int team) {
            first.startSet();
            second.startSet();
            server = team;
            pointsAheadOfWrong = NONE;
        }

        boolean takeService(int shirt) {
            Side side = sideOf(server);
            boolean isInOrder = side.shirtIn(1) == shirt;
            if (!isInOrder && pointsAheadOfWrong == NONE) {
                pointsAheadOfWrong = side.points;
            }
            first.hasExchanged = false;
            second.hasExchanged = false;
            return isInOrder;
        }

        void givePoint(int team) {
            Side side = sideOf(team);
            side.points++;
            if (server != team) {
                server = team;
                pointsAheadOfWrong = NONE;
                side.rotate();
            }
        }

        int takeBack() {
            Side side = sideOf(server);
            int taken = side.points - pointsAheadOfWrong;
            side.points = pointsAheadOfWrong;
            givePoint(1 - server);
            return taken;
        }

        boolean hasWonSet(int team) {
            int enough = setsPlayed() == 2 * SETS_OF_A_MATCH - 2 ? POINTS_OF_THE_FIFTH : POINTS_OF_A_SET;
            int points = sideOf(team).points;
            return points >= enough && points >= sideOf(1 - team).points + AHEAD_BY;
        }

        void endSet(int winner) {
            sideOf(winner).sets++;
            first.clearOrder();
            second.clearOrder();
            server = NONE;
            pointsAheadOfWrong = NONE;
        }

        void copyFrom(Court other) {
            first.copyFrom(other.first);
            second.copyFrom(other.second);
            server = other.server;
            pointsAheadOfWrong = other.pointsAheadOfWrong;
        }
    }

    /** A team: its order, its libero, its pairs, and what it has. */
    private static final class Side {
        private static final int LIBERO_LEAVES_AT = 4, LAST_IN_FRONT = 4;
        private static final int UNPAIRED = 0, SETTLED = -1;

        private final int[] shirts = new int[PLACES + 1];
        // By shirt: UNPAIRED, SETTLED (of a pair, and stays as it is), or the shirt for which it came and may go.
        private final int[] pairs = new int[SHIRTS + 1];
        private int libero = NONE;
        private int goneForLibero = NONE;
        private int points;
        private int sets;
        private int rotations;
        private int substitutions;
        private int challenges = CHALLENGES_OF_A_SET;
        private boolean hasExchanged;

        Side() {
            for (int place = 1; place <= PLACES; place++) {
                putIn(shirts, place, NONE);
            }
        }

        int shirtIn(int place) {
            return valueIn(shirts, place);
        }

        void put(int place, int shirt) {
            putIn(shirts, place, shirt);
        }

        int placeOf(int shirt) {
            for (int place = 1; place <= PLACES; place++) {
                if (shirtIn(place) == shirt) {
                    return place;
                }
            }
            return NONE;
        }

        boolean isBehind(int shirt) {
            int place = placeOf(shirt);
            return place == 1 || place > LAST_IN_FRONT;
        }

        boolean isLiberoIn() {
            return goneForLibero != NONE;
        }

        boolean isReady() {
            for (int place = 1; place <= PLACES; place++) {
                int shirt = shirtIn(place);
                // placeOf tells the first place, so a shirt that stands twice is found elsewhere once.
                if (shirt == NONE || shirt == libero || placeOf(shirt) != place) {
                    return false;
                }
            }
            return true;
        }

        void startSet() {
            points = 0;
            rotations = 0;
            substitutions = 0;
            challenges = CHALLENGES_OF_A_SET;
            hasExchanged = false;
            for (int shirt = 1; shirt <= SHIRTS; shirt++) {
                putIn(pairs, shirt, UNPAIRED);
            }
        }

        void clearOrder() {
            for (int place = 1; place <= PLACES; place++) {
                put(place, NONE);
            }
            libero = NONE;
            goneForLibero = NONE;
        }

        void rotate() {
            int fromFirst = shirtIn(1);
            for (int place = 1; place < PLACES; place++) {
                put(place, shirtIn(place + 1));
            }
            put(PLACES, fromFirst);
            rotations++;
            if (isLiberoIn() && shirtIn(LIBERO_LEAVES_AT) == libero) {
                put(LIBERO_LEAVES_AT, goneForLibero);
                goneForLibero = NONE;
            }
        }

        int faultOf(int shirt, int kind, boolean inFront) {
            boolean isTooFarInFront = kind == BLOCK || kind == ATTACK && inFront;
            if (isTooFarInFront && isBehind(shirt)) {
                return ROW;
            }
            return kind == ATTACK && shirt == libero ? LIBERO : 0;
        }

        boolean canExchange(int shirt) {
            if (libero == NONE || hasExchanged) {
                return false;
            }
            return isLiberoIn() ? shirt == goneForLibero : isBehind(shirt);
        }

        void swapLibero(int shirt) {
            if (isLiberoIn()) {
                put(placeOf(libero), shirt);
                goneForLibero = NONE;
            } else {
                put(placeOf(shirt), libero);
                goneForLibero = shirt;
            }
            hasExchanged = true;
        }

        boolean canSubstitute(int goes, int comes) {
            if (substitutions >= SUBSTITUTIONS_OF_A_SET || goes == libero || comes == libero || comes == goneForLibero) {
                return false;
            }
            if (placeOf(goes) == NONE || placeOf(comes) != NONE) {
                return false;
            }
            boolean isNewPair = valueIn(pairs, goes) == UNPAIRED && valueIn(pairs, comes) == UNPAIRED;
            return isNewPair || valueIn(pairs, goes) == comes;
        }

        void swapByPair(int goes, int comes) {
            boolean isReturn = valueIn(pairs, goes) == comes;
            putIn(pairs, goes, SETTLED);
            putIn(pairs, comes, isReturn ? SETTLED : goes);
            put(placeOf(goes), comes);
            substitutions++;
        }

        void copyFrom(Side other) {
            for (int place = 1; place <= PLACES; place++) {
                put(place, other.shirtIn(place));
            }
            for (int shirt = 1; shirt <= SHIRTS; shirt++) {
                putIn(pairs, shirt, valueIn(other.pairs, shirt));
            }
            libero = other.libero;
            goneForLibero = other.goneForLibero;
            points = other.points;
            sets = other.sets;
            rotations = other.rotations;
            substitutions = other.substitutions;
            challenges = other.challenges;
            hasExchanged = other.hasExchanged;
        }
    }

    /** The touches of a rally; behind its end it keeps the net touches for a challenge. */
    private static final class Rally {
        private static final int SERVICE = -1;
        private static final int TOUCHES_IN_A_ROW = 3;

        private boolean isOn;
        private int team;
        private int shirt;
        private int kind;
        private int inARow;
        private boolean isNetNotedOfFirst;
        private boolean isNetNotedOfSecond;

        void start(int byTeam, int byShirt) {
            isOn = true;
            team = byTeam;
            shirt = byShirt;
            kind = SERVICE;
            inARow = 0;
            isNetNotedOfFirst = false;
            isNetNotedOfSecond = false;
        }

        int faultOf(int byTeam, int byShirt, int byKind) {
            if (team != byTeam) {
                return 0;
            }
            if (kind == SERVICE) {
                return OWN;
            }
            if (shirt == byShirt && kind != BLOCK) {
                return TWICE;
            }
            return inARow == TOUCHES_IN_A_ROW && byKind != BLOCK ? FOURTH : 0;
        }

        void note(int byTeam, int byShirt, int byKind) {
            int before = team == byTeam ? inARow : 0;
            inARow = byKind == BLOCK ? 0 : before + 1;
            team = byTeam;
            shirt = byShirt;
            kind = byKind;
        }

        void noteNet(int ofTeam) {
            if (ofTeam == 1) {
                isNetNotedOfSecond = true;
            } else {
                isNetNotedOfFirst = true;
            }
        }

        boolean isNetNotedOf(int ofTeam) {
            return ofTeam == 1 ? isNetNotedOfSecond : isNetNotedOfFirst;
        }
    }

    /** The sheet of a set: a sign for each thing told, its kind, team and two numbers packed into one int. */
    private static final class Sheet {
        private static final int PLACE = 0, FREE = 1, START = 2, SERVICE = 3, WON = 4, FOUND = 5, EXCHANGE = 6, SUBSTITUTION = 7;
        // A call writes at most one sign, but begin(), which writes 15 behind 12 calls or more:
        // 512 calls never fill the sheet, and what calls behind these answer is free.
        private static final int ROOM = 640;

        private final int[] signs = new int[ROOM];
        private int length;

        void write(int kind, int team, int one, int two) {
            if (length < ROOM) {
                putIn(signs, length, kind << 11 | team << 10 | one << 5 | two);
                length++;
            }
        }

        void cutTo(int signsLeft) {
            length = signsLeft;
        }

        int signAt(int index) {
            return valueIn(signs, index);
        }

        static int kindOf(int sign) {
            return sign >> 11;
        }

        static int teamOf(int sign) {
            return sign >> 10 & 1;
        }

        static int oneOf(int sign) {
            return sign >> 5 & 31;
        }

        static int twoOf(int sign) {
            return sign & 31;
        }
    }

    /** Finds points, orders and lost rallies from a sheet alone, on a court of its own. */
    private static final class Reader {
        private final Court court = new Court();
        private final int[] lostByFirst = new int[PLACES];
        private final int[] lostBySecond = new int[PLACES];

        void read(Sheet sheet) {
            clear();
            for (int index = 0; index < sheet.length; index++) {
                int sign = sheet.signAt(index);
                follow(Sheet.kindOf(sign), Sheet.teamOf(sign), Sheet.oneOf(sign), Sheet.twoOf(sign));
            }
        }

        int lostBy(int team, int rotations) {
            return valueIn(rowOf(team), rotations);
        }

        private int[] rowOf(int team) {
            return team == 1 ? lostBySecond : lostByFirst;
        }

        private void clear() {
            court.first.clearOrder();
            court.second.clearOrder();
            for (int rotations = 0; rotations < PLACES; rotations++) {
                putIn(lostByFirst, rotations, 0);
                putIn(lostBySecond, rotations, 0);
            }
        }

        private void follow(int kind, int team, int one, int two) {
            Side side = court.sideOf(team);
            switch (kind) {
                case Sheet.PLACE:
                    side.put(one, two);
                    break;
                case Sheet.FREE:
                    side.libero = one;
                    break;
                case Sheet.START:
                    court.startSet(team);
                    break;
                case Sheet.SERVICE:
                    court.takeService(one);
                    break;
                case Sheet.WON:
                    countLost(1 - team);
                    court.givePoint(team);
                    break;
                case Sheet.FOUND:
                    court.takeBack();
                    break;
                case Sheet.EXCHANGE:
                    side.swapLibero(one);
                    break;
                case Sheet.SUBSTITUTION:
                    side.swapByPair(one, two);
                    break;
                default:
                    break;
            }
        }

        private void countLost(int team) {
            int rotations = court.sideOf(team).rotations % PLACES;
            putIn(rowOf(team), rotations, lostBy(team, rotations) + 1);
        }
    }
}
