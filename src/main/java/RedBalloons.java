/**
 * Balloons over a city of cells, told as a text: what becomes of them by the hour, whose answer
 * comes when, and what might best be done.
 *
 * <p>No call makes an object: every row and every sky that a call needs is made with the object
 * and used again, since all calls of a run share one room.
 */
public final class RedBalloons {
    public static final int UNKNOWN = -1, OUTSIDE = -2, STATE = -3, FULL = -4, NONE = -9;

    private static final int CELLS = 20;
    private static final int CELLS_IN_A_ROW = 5;
    private static final int TEXT_AT_MOST = 48;
    private static final int WINDS_AT_MOST = 4;
    private static final int BALLOONS_AT_MOST = 5;
    private static final int HEDGES_AT_MOST = 4;
    private static final int ACTS_AT_MOST = 14;
    private static final int FOUND_AT_MOST = 6;
    private static final int SLOTS = 2;

    private static final int STILL = 0, EAST = 1, WEST = 2, NORTH = 3, SOUTH = 4;
    private static final int STRAIGHT = 1, HEAVY = 2, LIGHT = 3;
    private static final int HELD = 0, FLIES = 1, CAUGHT = 2, GONE = 3;

    private static final int LAST_LETTER = 255;
    private static final int LAST_KIND = 3;
    private static final int LAST_WISH = 3;
    private static final int LAST_LATENESS = 9;
    private static final int LAST_BALLOON_QUESTION = 7;
    private static final int LAST_HEDGE_QUESTION = 3;
    private static final int LAST_LATER_HOURS = 20;
    private static final int LAST_FOUND_HOURS = 9;
    private static final int LAST_DOINGS = 4;
    private static final int LAST_FAILING_HOURS = 6;
    private static final int LAST_YEARS = 30;
    private static final int LONG_RUN = 30;
    private static final int TENTHS = 10;

    private static final int[] FACTORIALS = {1, 1, 2, 6, 24, 120};
    private static final long[] THOUSANDS = {1L, 1000L, 1000000L, 1000000000L, 1000000000000L};

    private final int[] text = new int[TEXT_AT_MOST];
    private int length;

    private final City plan = new City();
    private final Reader reader = new Reader(plan);
    // A text with a fault must leave the city as it is, so faults are looked for in another one.
    private final Reader proof = new Reader(new City());

    private final Sky now = new Sky(plan);
    private final Sky then = new Sky(plan);
    private final Acts acts = new Acts(plan);
    private final Sky[] slots = new Sky[SLOTS];
    private final boolean[] kept = new boolean[SLOTS];

    private final Foresight foresight = new Foresight(now, then);
    private final Sheets sheets = new Sheets(then);
    private final Findings findings = new Findings(plan);
    private final Shares shares = new Shares(now, then);
    private final Bench bench = new Bench(now, then);
    private final Chances chances = new Chances(now, then);

    public RedBalloons() {
        for (int slot = 0; slot < SLOTS; slot++) {
            slots[slot] = new Sky(plan);
        }
    }

    // ---- the city

    public int write(int letter) {
        if (letter < 0 || letter > LAST_LETTER) {
            return OUTSIDE;
        }
        if (length >= TEXT_AT_MOST) {
            return FULL;
        }
        text[length] = letter;
        length++;
        return length;
    }

    public int wipe() {
        int was = length;
        length = 0;
        return was;
    }

    public int fault() {
        return proof.read(text, length);
    }

    public int city() {
        if (proof.read(text, length) != NONE) {
            return STATE;
        }
        reader.read(text, length);
        now.begin();
        acts.forget();
        for (int slot = 0; slot < SLOTS; slot++) {
            kept[slot] = false;
        }
        return 100 * plan.winds + 10 * plan.balloons + plan.hedges;
    }

    public int balloon(int balloon, int what) {
        if (!now.hasBalloon(balloon)) {
            return UNKNOWN;
        }
        if (what < 0 || what > LAST_BALLOON_QUESTION) {
            return OUTSIDE;
        }
        Balloon asked = now.balloons[balloon];
        switch (what) {
            case 0:
                return asked.cell;
            case 1:
                return asked.kind;
            case 2:
                return plan.wish[balloon];
            case 3:
                return asked.what;
            case 4:
                return asked.hedge;
            case 5:
                return asked.child;
            case 6:
                return now.isAnswered(balloon) ? 1 : 0;
            default:
                return now.isGlad(balloon) ? 1 : 0;
        }
    }

    public int hedge(int hedge, int what) {
        if (!plan.hasHedge(hedge)) {
            return UNKNOWN;
        }
        if (what < 0 || what > LAST_HEDGE_QUESTION) {
            return OUTSIDE;
        }
        switch (what) {
            case 0:
                return plan.hedgeCell[hedge];
            case 1:
                return plan.late[hedge];
            case 2:
                return plan.answer[hedge];
            default:
                return now.caughtIn(hedge);
        }
    }

    // ---- acts

    public int let(int balloon) {
        if (!now.hasBalloon(balloon)) {
            return UNKNOWN;
        }
        if (!now.is(balloon, HELD)) {
            return STATE;
        }
        acts.remember(now);
        now.letGo(balloon);
        return Integer.bitCount(now.allThatAre(FLIES));
    }

    public int hour() {
        acts.remember(now);
        return now.passHour();
    }

    public int free(int balloon) {
        if (!now.hasBalloon(balloon)) {
            return UNKNOWN;
        }
        if (!now.is(balloon, CAUGHT)) {
            return STATE;
        }
        int was = now.balloons[balloon].hedge;
        acts.remember(now);
        now.setFree(balloon);
        return was;
    }

    public int right(int one, int other) {
        if (!now.hasBalloon(one) || !now.hasBalloon(other)) {
            return UNKNOWN;
        }
        if (one == other) {
            return OUTSIDE;
        }
        acts.remember(now);
        now.putRight(one, other);
        return Integer.bitCount(now.gladChildren());
    }

    public int undo() {
        if (acts.size == 0) {
            return STATE;
        }
        acts.takeBack(now);
        return acts.size;
    }

    // ---- hours to come

    public int later(int balloon, int n, int what) {
        if (!now.hasBalloon(balloon)) {
            return UNKNOWN;
        }
        if (n < 0 || n > LAST_LATER_HOURS || what < 0 || what > 1) {
            return OUTSIDE;
        }
        foresight.lookAhead(n);
        Balloon asked = then.balloons[balloon];
        return what == 0 ? asked.cell : asked.what;
    }

    public int comes(int balloon) {
        if (!now.hasBalloon(balloon)) {
            return UNKNOWN;
        }
        return foresight.hoursToAnswer(balloon);
    }

    public int best(int balloon) {
        if (!now.hasBalloon(balloon)) {
            return UNKNOWN;
        }
        if (!now.is(balloon, HELD)) {
            return STATE;
        }
        return foresight.hoursToLetting(balloon);
    }

    public int most(int what) {
        if (what < 0 || what > 1) {
            return OUTSIDE;
        }
        foresight.lookAhead(LONG_RUN);
        sheets.tryAllOrders();
        return what == 0 ? sheets.mostGlad : sheets.fewestExchanges;
    }

    public int judge(int n, long row) {
        if (n < 1 || n > LAST_DOINGS || row < 0 || row >= THOUSANDS[n]) {
            return OUTSIDE;
        }
        return foresight.firstThatCannotBe(n, row);
    }

    // ---- from where it came

    public int find(int cell, int n) {
        if (cell < 0 || cell >= CELLS) {
            return UNKNOWN;
        }
        if (n < 0 || n > LAST_FOUND_HOURS) {
            return OUTSIDE;
        }
        if (findings.size >= FOUND_AT_MOST) {
            return FULL;
        }
        findings.add(cell, n);
        return findings.size;
    }

    public int lose() {
        int was = findings.size;
        findings.size = 0;
        return was;
    }

    public int began(int kind) {
        if (kind < 0 || kind > LAST_KIND) {
            return OUTSIDE;
        }
        return findings.cellsOfLetting(kind);
    }

    // ---- shares, rests, chances

    public int share(int hedge, boolean upper) {
        if (!plan.hasHedge(hedge)) {
            return UNKNOWN;
        }
        int above = shares.sumOverOrders(hedge);
        return inLeastTerms(above, FACTORIALS[plan.hedges], upper);
    }

    public int rests(int one, int other, int what) {
        if (!now.hasBalloon(one) || !now.hasBalloon(other)) {
            return UNKNOWN;
        }
        if (one == other || what < 0 || what > 1) {
            return OUTSIDE;
        }
        if (!now.is(one, HELD) || !now.is(other, HELD)) {
            return STATE;
        }
        bench.tryAllPairs(one, other);
        return what == 0 ? bench.howManyRest() : bench.firstAtRest();
    }

    public int fails(int balloon, int hedge, int n, int x, boolean upper) {
        if (!now.hasBalloon(balloon) || !plan.hasHedge(hedge)) {
            return UNKNOWN;
        }
        if (n < 1 || n > LAST_FAILING_HOURS || x < 0 || x > TENTHS) {
            return OUTSIDE;
        }
        int above = chances.waysCaught(balloon, hedge, n, x);
        return inLeastTerms(above, power(TENTHS, n), upper);
    }

    public long seed(long v) {
        long was = chances.seed;
        chances.seed = v;
        return was;
    }

    public int years(int m) {
        if (m < 1 || m > LAST_YEARS) {
            return OUTSIDE;
        }
        return chances.gladOverYears(m);
    }

    // ---- slots

    public int keep(int slot) {
        if (slot < 0 || slot >= SLOTS) {
            return UNKNOWN;
        }
        slots[slot].takeFrom(now);
        kept[slot] = true;
        return now.hour;
    }

    public int again(int slot) {
        if (slot < 0 || slot >= SLOTS) {
            return UNKNOWN;
        }
        if (!kept[slot]) {
            return STATE;
        }
        now.takeFrom(slots[slot]);
        acts.forget();
        return now.hour;
    }

    public int count(int what) {
        switch (what) {
            case 0:
                return length;
            case 1:
                return plan.winds;
            case 2:
                return plan.balloons;
            case 3:
                return plan.hedges;
            case 4:
                return now.hour;
            case 5:
                return plan.windOf(now.hour);
            case 6:
                return now.allThatAre(HELD);
            case 7:
                return now.allThatAre(FLIES);
            case 8:
                return now.allThatAre(CAUGHT);
            case 9:
                return now.allThatAre(GONE);
            case 10:
                return now.answeredBalloons();
            case 11:
                return now.gladChildren();
            case 12:
                return acts.size;
            case 13:
                return findings.size;
            default:
                return OUTSIDE;
        }
    }

    // ---- numbers

    private static int power(int base, int exponent) {
        int product = 1;
        for (int i = 0; i < exponent; i++) {
            product *= base;
        }
        return product;
    }

    private static int inLeastTerms(int above, int below, boolean upper) {
        int divisor = greatestCommon(Math.abs(above), below);
        if (divisor < 1) {
            return upper ? above : below;
        }
        return upper ? above / divisor : below / divisor;
    }

    private static int greatestCommon(int one, int other) {
        int larger = one;
        int smaller = other;
        // Euclid ends in fewer than 48 rounds for any two ints.
        for (int round = 0; round < 64 && smaller != 0; round++) {
            int rest = larger % smaller;
            larger = smaller;
            smaller = rest;
        }
        return larger;
    }

    /** What was told of the city: no act changes it. */
    private static final class City {
        final int[] wind = new int[WINDS_AT_MOST];
        final int[] startCell = new int[BALLOONS_AT_MOST];
        final int[] kind = new int[BALLOONS_AT_MOST];
        final int[] wish = new int[BALLOONS_AT_MOST];
        final int[] hedgeCell = new int[HEDGES_AT_MOST];
        final int[] late = new int[HEDGES_AT_MOST];
        final int[] answer = new int[HEDGES_AT_MOST];
        int winds;
        int balloons;
        int hedges;

        void clear() {
            winds = 0;
            balloons = 0;
            hedges = 0;
        }

        int windOf(int hour) {
            return winds == 0 ? STILL : wind[Math.floorMod(hour, winds)];
        }

        boolean hasHedge(int hedge) {
            return hedge >= 0 && hedge < hedges;
        }

        int hedgeAt(int cell) {
            for (int hedge = 0; hedge < hedges; hedge++) {
                if (hedgeCell[hedge] == cell) {
                    return hedge;
                }
            }
            return NONE;
        }
    }

    /** Reads a text into a city, letter by letter, as far as it can be one. */
    private static final class Reader {
        // Which part the next letter belongs to: BEGINNING, BETWEEN, or the part's own first letter.
        private static final int BEGINNING = 0;
        private static final int BETWEEN = 1;

        private final City city;
        private int part;
        private int place;

        Reader(City city) {
            this.city = city;
        }

        int read(int[] letters, int length) {
            city.clear();
            part = BEGINNING;
            for (int i = 0; i < length && i < letters.length; i++) {
                if (!takes(letters[i])) {
                    return i;
                }
            }
            return part == BETWEEN ? NONE : length;
        }

        private boolean takes(int letter) {
            switch (part) {
                case BEGINNING:
                    part = BETWEEN;
                    return letter == 'C';
                case BETWEEN:
                    return opensPart(letter);
                case 'W':
                    return takesWind(letter - '0');
                case 'B':
                    return place == 0 ? takesStart(letter - 'a') : takesOfBalloon(letter - '0');
                default:
                    return place == 0 ? takesHedgeCell(letter - 'a') : takesOfHedge(letter - '0');
            }
        }

        private boolean opensPart(int letter) {
            part = letter;
            place = 0;
            switch (letter) {
                case 'W':
                    return city.winds < WINDS_AT_MOST;
                case 'B':
                    return city.balloons < BALLOONS_AT_MOST;
                case 'H':
                    return city.hedges < HEDGES_AT_MOST;
                default:
                    return false;
            }
        }

        private boolean takesWind(int wind) {
            if (wind < STILL || wind > SOUTH || city.winds >= WINDS_AT_MOST) {
                return false;
            }
            city.wind[city.winds] = wind;
            city.winds++;
            part = BETWEEN;
            return true;
        }

        private boolean takesStart(int cell) {
            if (cell < 0 || cell >= CELLS || city.balloons >= BALLOONS_AT_MOST) {
                return false;
            }
            city.startCell[city.balloons] = cell;
            place = 1;
            return true;
        }

        private boolean takesOfBalloon(int figure) {
            if (figure < 0 || figure > (place == 1 ? LAST_KIND : LAST_WISH) || city.balloons >= BALLOONS_AT_MOST) {
                return false;
            }
            if (place == 1) {
                city.kind[city.balloons] = figure;
                place = 2;
                return true;
            }
            city.wish[city.balloons] = figure;
            city.balloons++;
            part = BETWEEN;
            return true;
        }

        private boolean takesHedgeCell(int cell) {
            if (cell < 0 || cell >= CELLS || city.hedges >= HEDGES_AT_MOST || city.hedgeAt(cell) != NONE) {
                return false;
            }
            city.hedgeCell[city.hedges] = cell;
            place = 1;
            return true;
        }

        private boolean takesOfHedge(int figure) {
            if (figure < 0 || figure > (place == 1 ? LAST_LATENESS : LAST_WISH) || city.hedges >= HEDGES_AT_MOST) {
                return false;
            }
            if (place == 1) {
                city.late[city.hedges] = figure;
                place = 2;
                return true;
            }
            city.answer[city.hedges] = figure;
            city.hedges++;
            part = BETWEEN;
            return true;
        }
    }

    /** One balloon: where it is, what it is, and to whom what comes for it goes. */
    private static final class Balloon {
        int kind;
        int cell;
        int what;
        // NONE whenever it is not CAUGHT.
        int hedge = NONE;
        int caughtBy;
        // The wind that a STRAIGHT one has taken for good; STILL: none yet.
        int ownWind;
        int child;

        void holdAt(int startCell, int itsKind, int itsChild) {
            kind = itsKind;
            cell = startCell;
            what = HELD;
            hedge = NONE;
            caughtBy = 0;
            ownWind = STILL;
            child = itsChild;
        }

        void takeFrom(Balloon other) {
            kind = other.kind;
            cell = other.cell;
            what = other.what;
            hedge = other.hedge;
            caughtBy = other.caughtBy;
            ownWind = other.ownWind;
            child = other.child;
        }

        void goBy(int wind, int hour) {
            if (what != FLIES || (kind == HEAVY && (hour & 1) != 0)) {
                return;
            }
            if (kind == STRAIGHT && ownWind == STILL) {
                ownWind = wind;
            }
            int way = kind == STRAIGHT ? ownWind : wind;
            goOneCell(way);
            if (kind == LIGHT && what == FLIES) {
                goOneCell(way);
            }
        }

        private void goOneCell(int way) {
            int column = cell % CELLS_IN_A_ROW;
            if (way == EAST && column < CELLS_IN_A_ROW - 1) {
                cell++;
            } else if (way == WEST && column > 0) {
                cell--;
            } else if (way == NORTH && cell >= CELLS_IN_A_ROW) {
                cell -= CELLS_IN_A_ROW;
            } else if (way == SOUTH && cell < CELLS - CELLS_IN_A_ROW) {
                cell += CELLS_IN_A_ROW;
            } else if (way != STILL) {
                what = GONE;
            }
        }

        void catchIn(int itsHedge, int hour) {
            what = CAUGHT;
            hedge = itsHedge;
            caughtBy = hour;
        }

        void leaveHedge(int becomes) {
            what = becomes;
            hedge = NONE;
        }
    }

    /** All balloons in one hour; acts that can not be are told by false and change nothing. */
    private static final class Sky {
        private static final int ALL = -1;

        final City city;
        final Balloon[] balloons = new Balloon[BALLOONS_AT_MOST];
        int hour;
        // Hedges that catch, as bits: all of them, but while shares are weighed.
        private int standing = ALL;

        Sky(City city) {
            this.city = city;
            for (int i = 0; i < BALLOONS_AT_MOST; i++) {
                balloons[i] = new Balloon();
            }
        }

        void begin() {
            hour = 0;
            standing = ALL;
            for (int i = 0; i < city.balloons; i++) {
                balloons[i].holdAt(city.startCell[i], city.kind[i], i);
            }
        }

        void takeFrom(Sky other) {
            hour = other.hour;
            standing = other.standing;
            for (int i = 0; i < city.balloons; i++) {
                balloons[i].takeFrom(other.balloons[i]);
            }
        }

        boolean hasBalloon(int balloon) {
            return balloon >= 0 && balloon < city.balloons;
        }

        boolean is(int balloon, int what) {
            return hasBalloon(balloon) && balloons[balloon].what == what;
        }

        boolean letGo(int balloon) {
            if (!is(balloon, HELD)) {
                return false;
            }
            balloons[balloon].what = FLIES;
            return true;
        }

        boolean setFree(int balloon) {
            if (!is(balloon, CAUGHT)) {
                return false;
            }
            balloons[balloon].leaveHedge(FLIES);
            return true;
        }

        boolean putRight(int one, int other) {
            if (!hasBalloon(one) || !hasBalloon(other) || one == other) {
                return false;
            }
            int child = balloons[one].child;
            balloons[one].child = balloons[other].child;
            balloons[other].child = child;
            return true;
        }

        int passHour() {
            return passHourBy(city.windOf(hour));
        }

        void passHours(int n) {
            for (int i = 0; i < n; i++) {
                passHourBy(city.windOf(hour));
            }
        }

        int passHourBy(int wind) {
            for (int i = 0; i < city.balloons; i++) {
                balloons[i].goBy(wind, hour);
            }
            hour++;
            int caught = 0;
            for (int i = 0; i < city.balloons; i++) {
                if (balloons[i].what == FLIES && catches(balloons[i])) {
                    caught++;
                }
            }
            return caught;
        }

        private boolean catches(Balloon balloon) {
            int hedge = city.hedgeAt(balloon.cell);
            if (hedge == NONE || !stands(hedge)) {
                return false;
            }
            balloon.catchIn(hedge, hour);
            return true;
        }

        private boolean stands(int hedge) {
            return (standing >> hedge & 1) != 0;
        }

        void leaveStanding(int hedges) {
            standing = hedges;
            for (int i = 0; i < city.balloons; i++) {
                if (balloons[i].hedge >= 0 && !stands(balloons[i].hedge)) {
                    balloons[i].leaveHedge(GONE);
                }
            }
        }

        /** What has come for a balloon by now; NONE. */
        int whatCame(int balloon) {
            Balloon asked = balloons[balloon];
            if (asked.hedge < 0 || asked.hedge >= city.hedges || hour - asked.caughtBy < city.late[asked.hedge]) {
                return NONE;
            }
            return city.answer[asked.hedge];
        }

        boolean isAnswered(int balloon) {
            return whatCame(balloon) != NONE;
        }

        boolean gladdens(int balloon, int child) {
            return whatCame(balloon) == city.wish[child];
        }

        boolean isGlad(int child) {
            return (gladChildren() >> child & 1) != 0;
        }

        int gladChildren() {
            int bits = 0;
            for (int i = 0; i < city.balloons; i++) {
                if (gladdens(i, balloons[i].child)) {
                    bits |= 1 << balloons[i].child;
                }
            }
            return bits;
        }

        int answeredBalloons() {
            int bits = 0;
            for (int i = 0; i < city.balloons; i++) {
                if (isAnswered(i)) {
                    bits |= 1 << i;
                }
            }
            return bits;
        }

        int allThatAre(int what) {
            int bits = 0;
            for (int i = 0; i < city.balloons; i++) {
                if (balloons[i].what == what) {
                    bits |= 1 << i;
                }
            }
            return bits;
        }

        int caughtIn(int hedge) {
            int bits = 0;
            for (int i = 0; i < city.balloons; i++) {
                if (balloons[i].hedge == hedge) {
                    bits |= 1 << i;
                }
            }
            return bits;
        }
    }

    /** How the sky was ahead of each of the last acts; the oldest gives way when there are more. */
    private static final class Acts {
        private final Sky[] ahead = new Sky[ACTS_AT_MOST];
        private int oldest;
        int size;

        Acts(City city) {
            for (int i = 0; i < ACTS_AT_MOST; i++) {
                ahead[i] = new Sky(city);
            }
        }

        void forget() {
            oldest = 0;
            size = 0;
        }

        void remember(Sky sky) {
            if (size == ACTS_AT_MOST) {
                oldest = (oldest + 1) % ACTS_AT_MOST;
                size--;
            }
            ahead[(oldest + size) % ACTS_AT_MOST].takeFrom(sky);
            size++;
        }

        void takeBack(Sky sky) {
            if (size == 0) {
                return;
            }
            size--;
            sky.takeFrom(ahead[(oldest + size) % ACTS_AT_MOST]);
        }
    }

    /** Hours to come, and doings told ahead: tried on a second sky. */
    private static final class Foresight {
        private static final int LONGEST_WAIT = 12;
        private static final int LONGEST_FLIGHT = 20;

        private final Sky now;
        private final Sky then;

        Foresight(Sky now, Sky then) {
            this.now = now;
            this.then = then;
        }

        void lookAhead(int hours) {
            then.takeFrom(now);
            then.passHours(hours);
        }

        int hoursToAnswer(int balloon) {
            then.takeFrom(now);
            for (int hours = 0; hours <= LONG_RUN; hours++) {
                if (then.isAnswered(balloon)) {
                    return hours;
                }
                then.passHour();
            }
            return NONE;
        }

        int hoursToLetting(int balloon) {
            for (int hours = 0; hours <= LONGEST_WAIT; hours++) {
                if (endsWellIfLetIn(hours, balloon)) {
                    return hours;
                }
            }
            return NONE;
        }

        private boolean endsWellIfLetIn(int hours, int balloon) {
            then.takeFrom(now);
            then.passHours(hours);
            then.letGo(balloon);
            // Nobody frees it, so where it is caught at any time it still is at the end.
            then.passHours(LONGEST_FLIGHT);
            int hedge = then.balloons[balloon].hedge;
            return then.city.hasHedge(hedge) && then.city.answer[hedge] == then.city.wish[balloon];
        }

        int firstThatCannotBe(int n, long row) {
            then.takeFrom(now);
            for (int place = 0; place < n; place++) {
                int doing = (int) (row / THOUSANDS[n - 1 - place] % 1000L);
                if (!canBe(doing / 100, doing / 10 % 10, doing % 10)) {
                    return place;
                }
            }
            return NONE;
        }

        private boolean canBe(int doing, int one, int other) {
            if (doing != 3 && one != 0) {
                return false;
            }
            switch (doing) {
                case 0:
                    if (other != 0) {
                        return false;
                    }
                    then.passHour();
                    return true;
                case 1:
                    return then.letGo(other);
                case 2:
                    return then.setFree(other);
                case 3:
                    return then.putRight(one, other);
                case 4:
                    return then.isGlad(other);
                default:
                    return false;
            }
        }
    }

    /** Every way in which sheets can be put right in a sky, and the best of them. */
    private static final class Sheets {
        private final Sky sky;
        private final int[] childOf = new int[BALLOONS_AT_MOST];
        int mostGlad;
        int fewestExchanges;

        Sheets(Sky sky) {
            this.sky = sky;
        }

        void tryAllOrders() {
            mostGlad = NONE;
            fewestExchanges = NONE;
            int orders = FACTORIALS[sky.city.balloons];
            for (int order = 0; order < orders; order++) {
                int exchanges = layOut(order);
                int glad = gladByOrder();
                if (glad > mostGlad || (glad == mostGlad && exchanges < fewestExchanges)) {
                    mostGlad = glad;
                    fewestExchanges = exchanges;
                }
            }
        }

        /**
         * Each order by numbers once: the balloons in turn take the sheet of themselves or of one
         * behind them. Every true exchange here joins two rounds of the order, so that no fewer
         * exchanges lead to it.
         */
        private int layOut(int order) {
            int balloons = sky.city.balloons;
            for (int i = 0; i < balloons; i++) {
                childOf[i] = sky.balloons[i].child;
            }
            int left = order;
            int exchanges = 0;
            for (int i = 0; i < balloons; i++) {
                int from = i + left % (balloons - i);
                left /= balloons - i;
                if (from != i) {
                    int child = childOf[i];
                    childOf[i] = childOf[from];
                    childOf[from] = child;
                    exchanges++;
                }
            }
            return exchanges;
        }

        private int gladByOrder() {
            int glad = 0;
            for (int i = 0; i < sky.city.balloons; i++) {
                if (sky.gladdens(i, childOf[i])) {
                    glad++;
                }
            }
            return glad;
        }
    }

    /** Where a balloon was found behind how many hours, and where it may have been let go of. */
    private static final class Findings {
        private final City city;
        private final int[] cell = new int[FOUND_AT_MOST];
        private final int[] hours = new int[FOUND_AT_MOST];
        private final Balloon flight = new Balloon();
        int size;

        Findings(City city) {
            this.city = city;
        }

        void add(int itsCell, int itsHours) {
            if (size >= FOUND_AT_MOST) {
                return;
            }
            cell[size] = itsCell;
            hours[size] = itsHours;
            size++;
        }

        int cellsOfLetting(int kind) {
            int bits = 0;
            for (int start = 0; start < CELLS; start++) {
                if (agreesFrom(start, kind)) {
                    bits |= 1 << start;
                }
            }
            return bits;
        }

        private boolean agreesFrom(int start, int kind) {
            flight.holdAt(start, kind, 0);
            flight.what = FLIES;
            for (int hour = 0; hour <= LAST_FOUND_HOURS; hour++) {
                if (!agreesBehind(hour)) {
                    return false;
                }
                flight.goBy(city.windOf(hour), hour);
            }
            return true;
        }

        private boolean agreesBehind(int hour) {
            for (int i = 0; i < size; i++) {
                if (hours[i] == hour && (flight.what != FLIES || flight.cell != cell[i])) {
                    return false;
                }
            }
            return true;
        }
    }

    /** What each hedge adds to the glad children, over all orders in which hedges can come. */
    private static final class Shares {
        private final Sky now;
        private final Sky then;
        private final int[] gladWith = new int[1 << HEDGES_AT_MOST];

        Shares(Sky now, Sky then) {
            this.now = now;
            this.then = then;
        }

        int sumOverOrders(int hedge) {
            int hedges = now.city.hedges;
            if (!now.city.hasHedge(hedge)) {
                return 0;
            }
            weighAllSets(hedges);
            int sum = 0;
            for (int come = 0; come < 1 << hedges; come++) {
                if ((come >> hedge & 1) == 0) {
                    int ahead = Integer.bitCount(come);
                    int orders = FACTORIALS[ahead] * FACTORIALS[hedges - 1 - ahead];
                    sum += orders * (gladWith[come | 1 << hedge] - gladWith[come]);
                }
            }
            return sum;
        }

        private void weighAllSets(int hedges) {
            for (int come = 0; come < 1 << hedges; come++) {
                then.takeFrom(now);
                then.leaveStanding(come);
                then.passHours(LONG_RUN);
                gladWith[come] = Integer.bitCount(then.gladChildren());
            }
        }
    }

    /** Two on a bench, each of whom lets go or not: a pair is twice the one's choice and the other's. */
    private static final class Bench {
        private static final int PAIRS = 4;
        private static final int HOURS_TO_SIT = 9;

        private final Sky now;
        private final Sky then;
        private final int[] oneHas = new int[PAIRS];
        private final int[] otherHas = new int[PAIRS];

        Bench(Sky now, Sky then) {
            this.now = now;
            this.then = then;
        }

        void tryAllPairs(int one, int other) {
            for (int pair = 0; pair < PAIRS; pair++) {
                then.takeFrom(now);
                if ((pair & 2) != 0) {
                    then.letGo(one);
                }
                if ((pair & 1) != 0) {
                    then.letGo(other);
                }
                then.passHours(HOURS_TO_SIT);
                int loss = caughtTogether(one, other) ? 1 : 0;
                oneHas[pair] = ownJoy(one) - loss;
                otherHas[pair] = ownJoy(other) - loss;
            }
        }

        private boolean caughtTogether(int one, int other) {
            return then.is(one, CAUGHT) && then.balloons[one].hedge == then.balloons[other].hedge;
        }

        private int ownJoy(int child) {
            return (then.isGlad(child) ? 3 : 0) + (then.is(child, HELD) ? 1 : 0);
        }

        private boolean isAtRest(int pair) {
            return oneHas[pair ^ 2] <= oneHas[pair] && otherHas[pair ^ 1] <= otherHas[pair];
        }

        int howManyRest() {
            int pairs = 0;
            for (int pair = 0; pair < PAIRS; pair++) {
                if (isAtRest(pair)) {
                    pairs++;
                }
            }
            return pairs;
        }

        int firstAtRest() {
            for (int pair = 0; pair < PAIRS; pair++) {
                if (isAtRest(pair)) {
                    return 10 * (pair >> 1) + (pair & 1);
                }
            }
            return NONE;
        }
    }

    /** Winds that fail, and years by a seed. */
    private static final class Chances {
        private static final long FACTOR = 6364136223846793005L;
        private static final long ADDEND = 1442695040888963407L;
        private static final int ALL_BUT_31_BITS = 33;
        private static final int DOINGS = 24;
        private static final int FIRST_FREED = 5;
        private static final int FIRST_PUT_RIGHT = 10;
        private static final int FIRST_HOUR = 13;

        private final Sky now;
        private final Sky then;
        long seed;

        Chances(Sky now, Sky then) {
            this.now = now;
            this.then = then;
        }

        /** Of 10 to the n even chances, those by which the balloon is caught in the hedge. */
        int waysCaught(int balloon, int hedge, int n, int x) {
            int ways = 0;
            for (int failing = 0; failing < 1 << n; failing++) {
                int failures = Integer.bitCount(failing);
                int likely = power(x, failures) * power(TENTHS - x, n - failures);
                if (likely > 0 && isCaughtIf(failing, n, balloon, hedge)) {
                    ways += likely;
                }
            }
            return ways;
        }

        private boolean isCaughtIf(int failing, int n, int balloon, int hedge) {
            then.takeFrom(now);
            for (int i = 0; i < n; i++) {
                if ((failing >> i & 1) != 0) {
                    then.passHourBy(STILL);
                } else {
                    then.passHour();
                }
            }
            return then.balloons[balloon].hedge == hedge;
        }

        int gladOverYears(int m) {
            then.takeFrom(now);
            int glad = 0;
            for (int i = 0; i < m; i++) {
                seed = seed * FACTOR + ADDEND;
                doIfItCanBe((int) ((seed >>> ALL_BUT_31_BITS) % DOINGS));
                glad += Integer.bitCount(then.gladChildren());
            }
            return glad;
        }

        private void doIfItCanBe(int doing) {
            if (doing < FIRST_FREED) {
                then.letGo(doing);
            } else if (doing < FIRST_PUT_RIGHT) {
                then.setFree(doing - FIRST_FREED);
            } else if (doing < FIRST_HOUR) {
                then.putRight(doing - FIRST_PUT_RIGHT, doing - FIRST_PUT_RIGHT + 1);
            } else {
                then.passHour();
            }
        }
    }
}
