/** The complaints desk of a windmill village. What each call promises stands in the project's document. */
public final class MillComplaints {
    public static final int UNKNOWN = -1;
    public static final int BAD_VALUE = -2;
    public static final int FULL = -3;
    public static final int NOT_POSSIBLE = -4;
    public static final int NONE = -5;

    private static final int HOURS = 24;
    private static final int FIRST_NIGHT_HOUR = 22;
    private static final int LAST_NIGHT_HOUR = 5;
    private static final int WIDTH = 12;
    private static final int DEPTH = 8;
    private static final int YARDS = WIDTH * DEPTH;
    private static final int MOST_MILLS = 4;
    private static final int MOST_HOUSES = 10;
    private static final int TALLEST_MILL = 5;
    private static final int FIRST_WIND = 3;
    private static final int LEAST_TURNING_WIND = 2;
    private static final int STRONGEST_WIND = 9;
    private static final int VAIN_TO_BE_BARRED = 3;
    private static final int MOST_SIGNS = 60;
    private static final int MOST_STATES = 4;

    private static final int BY_NOISE = 0;
    private static final int BY_SHADOW = 1;
    private static final int KINDS = 2;

    private static final int BORNE_BY_DAY = 0;
    private static final int BORNE_BY_NIGHT = 1;
    private static final int POINTS_THAT_TIE = 2;
    private static final int LOSS_THAT_WINS = 3;
    private static final int[] LEAST_SETTING = {0, 0, 1, 0};
    private static final int[] MOST_SETTING = {20, 20, 9, 99};
    private static final int[] FIRST_SETTING = {6, 3, 2, 8};

    // A tally's number is what count() calls it, less FIRST_TALLY.
    private static final int FIRST_TALLY = 2;
    private static final int HEARD = 0;
    private static final int REFUSED = 1;
    private static final int SUITS = 2;
    private static final int SUITS_WON = 3;
    private static final int VOTES = 4;
    private static final int VOTES_THAT_UNTIED = 5;
    private static final int TALLIES = 6;

    private static final int FAULT_BASE = -100;
    private static final int REFUSAL_BASE = -10;
    private static final int FIRST_VAIN_REASON = 4;
    private static final int LAST_VAIN_REASON = 6;

    private final Village now;
    // The state ahead of the act that is under way; a row of its own, so that no act has to make one.
    private final Village before;
    private final Village snapshot;
    private boolean hasSnapshot;
    private final History history;
    private final Text text;

    public MillComplaints() {
        now = new Village();
        before = new Village();
        snapshot = new Village();
        hasSnapshot = false;
        history = new History();
        text = new Text();
    }

    // ---- the map, winds

    public int mill(int height, int yard) {
        before.copyFrom(now);
        return recorded(bringMill(height, yard));
    }

    public int house(int yard) {
        before.copyFrom(now);
        return recorded(bringHouse(yard));
    }

    public int wind(int from, int to, int wind) {
        before.copyFrom(now);
        return recorded(tellWind(from, to, wind));
    }

    public int set(int which, int value) {
        if (which < 0 || which >= FIRST_SETTING.length) {
            return BAD_VALUE;
        }
        if (value < at(LEAST_SETTING, which) || value > at(MOST_SETTING, which)) {
            return BAD_VALUE;
        }
        int previous = now.setting(which);
        if (previous == value) {
            return NONE;
        }
        before.copyFrom(now);
        put(now.settings, which, value);
        return recorded(previous);
    }

    public int doAll() {
        int fault = text.firstFault();
        if (fault != NONE) {
            return FAULT_BASE - fault;
        }
        before.copyFrom(now);
        int parts = 0;
        int start = 0;
        for (int end = 0; end <= text.length; end++) {
            if (end == text.length || text.signAt(end) == ';') {
                int answer = doPart(start, end);
                if (answer == UNKNOWN || answer == NOT_POSSIBLE || answer == FULL) {
                    now.copyFrom(before);
                    return answer;
                }
                parts++;
                start = end + 1;
            }
        }
        return recorded(parts);
    }

    // ---- complaints, suits, votes

    public int complain(int house, int mill, int kind, int hour) {
        before.copyFrom(now);
        return recorded(lodge(house, mill, kind, hour));
    }

    public int sue(int mill, int house, int hour) {
        if (!now.hasMill(mill) || !now.hasHouse(house) || !isHour(hour)) {
            return UNKNOWN;
        }
        if (!now.isTied(mill, hour) || now.standingFor(house, mill, hour) == 0) {
            return NOT_POSSIBLE;
        }
        before.copyFrom(now);
        add(now.tallies, SUITS, 1);
        int loss = now.windAt(hour) * Integer.bitCount(now.tiedHours(mill));
        if (loss <= now.setting(LOSS_THAT_WINS)) {
            return recorded(0);
        }
        winSuit(mill, house, hour);
        return recorded(1);
    }

    public int vote(int mill, int hour) {
        if (!now.hasMill(mill) || !isHour(hour)) {
            return UNKNOWN;
        }
        if (!now.isTied(mill, hour) || now.houses == 0) {
            return NOT_POSSIBLE;
        }
        before.copyFrom(now);
        add(now.tallies, VOTES, 1);
        int votes = now.votesForUntying(mill, hour);
        if (2 * votes > now.houses) {
            add(now.tallies, VOTES_THAT_UNTIED, 1);
            now.untie(mill, hour);
            for (int house = 0; house < now.houses; house++) {
                now.dropFor(house, mill, hour);
            }
        }
        return recorded(votes);
    }

    // ---- texts

    public int type(char character) {
        return text.append(character);
    }

    public int clearText() {
        int length = text.length;
        text.length = 0;
        return length;
    }

    public int fault() {
        return text.firstFault();
    }

    // ---- history

    public int undo() {
        if (history.size == 0) {
            return NONE;
        }
        history.takeLatest(now);
        return history.size;
    }

    public int keep() {
        snapshot.copyFrom(now);
        hasSnapshot = true;
        return now.houses;
    }

    public int restore() {
        if (!hasSnapshot) {
            return NONE;
        }
        before.copyFrom(now);
        now.copyFrom(snapshot);
        return recorded(now.houses);
    }

    // ---- what is told

    public int yardOf(int yard, int what) {
        if (!isYard(yard)) {
            return UNKNOWN;
        }
        switch (what) {
            case 0: return now.millAt(yard);
            case 1: return now.houseAt(yard);
            default: return BAD_VALUE;
        }
    }

    public int millOf(int mill, int what) {
        if (!now.hasMill(mill)) {
            return UNKNOWN;
        }
        switch (what) {
            case 0: return at(now.heights, mill);
            case 1: return at(now.millYards, mill);
            case 2: return now.tiedHours(mill);
            case 3: return now.turningHours(mill);
            case 4: return now.grainOf(mill);
            case 5: return now.pointsOfDay(mill);
            default: return BAD_VALUE;
        }
    }

    public int houseOf(int house, int what) {
        if (!now.hasHouse(house)) {
            return UNKNOWN;
        }
        switch (what) {
            case 0: return at(now.houseYards, house);
            case 1: return at(now.vain, house);
            case 2: return now.isBarred(house) ? 1 : 0;
            case 3: return now.standingOf(house);
            case 4: return now.troubledHours(house, BY_NOISE);
            case 5: return now.troubledHours(house, BY_SHADOW);
            default: return BAD_VALUE;
        }
    }

    public int noise(int mill, int yard, int hour) {
        if (!now.hasMill(mill) || !isYard(yard) || !isHour(hour)) {
            return UNKNOWN;
        }
        return now.noiseIn(mill, yard, hour);
    }

    public int shadow(int mill, int yard, int hour, int way) {
        if (!now.hasMill(mill) || !isYard(yard) || !isHour(hour)) {
            return UNKNOWN;
        }
        int millYard = at(now.millYards, mill);
        int height = at(now.heights, mill);
        switch (way) {
            case 0: return Shadows.isMetOnTheWalk(millYard, height, yard, hour) ? 1 : 0;
            case 1: return Shadows.liesThere(millYard, height, yard, hour) ? 1 : 0;
            default: return BAD_VALUE;
        }
    }

    public int why(int house, int mill, int kind, int hour) {
        return now.reasonAgainst(house, mill, kind, hour);
    }

    public int count(int what) {
        switch (what) {
            case 0: return now.mills;
            case 1: return now.houses;
            case 2: case 3: case 4: case 5: case 6: case 7: return at(now.tallies, what - FIRST_TALLY);
            case 8: return now.tiedHoursOfAll();
            case 9: return now.grainOfAll();
            case 10: return history.size;
            case 11: return text.length;
            case 12: return now.setting(BORNE_BY_DAY);
            case 13: return now.setting(BORNE_BY_NIGHT);
            case 14: return now.setting(POINTS_THAT_TIE);
            case 15: return now.setting(LOSS_THAT_WINS);
            default: return BAD_VALUE;
        }
    }

    public float ground() {
        int untied = now.grainOfAllIfUntied();
        if (untied == 0) {
            return 1.0f;
        }
        return (float) now.grainOfAll() / (float) untied;
    }

    // ---- what would be

    public int quietHours(int mill) {
        if (!now.hasMill(mill)) {
            return UNKNOWN;
        }
        int hours = 0;
        for (int hour = 0; hour < HOURS; hour++) {
            if (now.blows(hour) && now.troubledIfUntied(mill, hour) == 0) {
                hours |= 1 << hour;
            }
        }
        return hours;
    }

    public int loudest(int hour) {
        if (!isHour(hour)) {
            return UNKNOWN;
        }
        int loudest = NONE;
        int most = 0;
        for (int house = 0; house < now.houses; house++) {
            int noise = now.noiseOfAllMills(house, hour);
            if (noise > most) {
                most = noise;
                loudest = house;
            }
        }
        return loudest;
    }

    public int bestTied(int mill) {
        if (!now.hasMill(mill)) {
            return UNKNOWN;
        }
        int best = NONE;
        int most = 0;
        for (int hour = 0; hour < HOURS; hour++) {
            int troubled = now.turns(mill, hour) ? now.troubledIfUntied(mill, hour) : 0;
            boolean hasLessWind = best != NONE && now.windAt(hour) < now.windAt(best);
            if (troubled > most || troubled == most && hasLessWind) {
                most = troubled;
                best = hour;
            }
        }
        return best;
    }

    public int ifVoted(int mill, int hour) {
        if (!now.hasMill(mill) || !isHour(hour)) {
            return UNKNOWN;
        }
        return now.votesForUntying(mill, hour);
    }

    // ---- acts, without the history

    /** Records the state ahead of the act, if the act's answer is no error and not NONE; hands the answer on. */
    private int recorded(int answer) {
        if (answer >= 0 || isVain(REFUSAL_BASE - answer)) {
            history.add(before);
        }
        return answer;
    }

    private static boolean isVain(int reason) {
        return reason >= FIRST_VAIN_REASON && reason <= LAST_VAIN_REASON;
    }

    private int bringMill(int height, int yard) {
        if (!isYard(yard)) {
            return UNKNOWN;
        }
        if (height < 1 || height > TALLEST_MILL) {
            return BAD_VALUE;
        }
        if (!now.isFree(yard)) {
            return NOT_POSSIBLE;
        }
        if (now.mills >= MOST_MILLS) {
            return FULL;
        }
        int number = now.mills;
        put(now.heights, number, height);
        put(now.millYards, number, yard);
        now.mills = number + 1;
        return number;
    }

    private int bringHouse(int yard) {
        if (!isYard(yard)) {
            return UNKNOWN;
        }
        if (!now.isFree(yard)) {
            return NOT_POSSIBLE;
        }
        if (now.houses >= MOST_HOUSES) {
            return FULL;
        }
        int number = now.houses;
        put(now.houseYards, number, yard);
        now.houses = number + 1;
        return number;
    }

    private int tellWind(int from, int to, int strength) {
        if (!isHour(from) || !isHour(to) || to < from) {
            return UNKNOWN;
        }
        if (strength < 0 || strength > STRONGEST_WIND) {
            return BAD_VALUE;
        }
        int changed = 0;
        for (int hour = from; hour <= to; hour++) {
            if (now.windAt(hour) != strength) {
                put(now.winds, hour, strength);
                changed++;
            }
        }
        return changed == 0 ? NONE : changed;
    }

    private int lodge(int house, int mill, int kind, int hour) {
        int reason = now.reasonAgainst(house, mill, kind, hour);
        if (reason < 0) {
            return reason;
        }
        if (reason > 0) {
            if (isVain(reason)) {
                add(now.vain, house, 1);
                add(now.tallies, REFUSED, 1);
            }
            return REFUSAL_BASE - reason;
        }
        now.letStand(house, mill, kind, hour);
        add(now.tallies, HEARD, 1);
        int points = now.points(mill, hour);
        if (points >= now.setting(POINTS_THAT_TIE)) {
            now.tie(mill, hour);
        }
        return points;
    }

    private void winSuit(int mill, int house, int hour) {
        add(now.tallies, SUITS_WON, 1);
        add(now.vain, house, 1);
        now.dropFor(house, mill, hour);
        if (now.points(mill, hour) < now.setting(POINTS_THAT_TIE)) {
            now.untie(mill, hour);
        }
    }

    /** Does the part of the text from start to end, in a text without a fault. */
    private int doPart(int start, int end) {
        switch (text.signAt(start)) {
            case 'm':
                return bringMill(text.digitAt(start + 1), text.yardAt(start + 3));
            case 'h':
                return bringHouse(text.yardAt(start + 2));
            case 'w':
                int hour = text.numberAt(start + 1, end - 2);
                return tellWind(hour, hour, text.digitAt(end - 1));
            default:
                int kind = text.signAt(start + 3) == 'n' ? BY_NOISE : BY_SHADOW;
                return lodge(text.digitAt(start + 1), text.digitAt(start + 2), kind, text.numberAt(start + 4, end));
        }
    }

    // ---- rows and ranges

    private static int at(int[] row, int index) {
        return index >= 0 && index < row.length ? row[index] : 0;
    }

    private static void put(int[] row, int index, int value) {
        if (index >= 0 && index < row.length) {
            row[index] = value;
        }
    }

    private static void add(int[] row, int index, int more) {
        put(row, index, at(row, index) + more);
    }

    private static void copyRow(int[] from, int[] to) {
        for (int index = 0; index < from.length && index < to.length; index++) {
            to[index] = from[index];
        }
    }

    private static boolean isHour(int hour) {
        return hour >= 0 && hour < HOURS;
    }

    private static boolean isYard(int yard) {
        return yard >= 0 && yard < YARDS;
    }

    private static int distance(int yard, int other) {
        int eastward = Math.abs(yard % WIDTH - other % WIDTH);
        int southward = Math.abs(yard / WIDTH - other / WIDTH);
        return Math.max(eastward, southward);
    }

    /** Where the shadow of a mill lies: it goes on from the mill's yard, which is not in it. */
    private static final class Shadows {
        private static final int SUNRISE = 6;
        private static final int NOON = 12;
        private static final int SUNSET = 18;
        private static final int FIRST_NORTHWARD = 10;
        private static final int LAST_NORTHWARD = 14;

        private Shadows() {
        }

        static boolean hasSun(int hour) {
            return hour >= SUNRISE && hour <= SUNSET;
        }

        private static int length(int height, int hour) {
            if (hour < SUNRISE || hour > SUNSET) {
                return 0;
            }
            int hoursFromNoon = hour < NOON ? NOON - hour : hour - NOON;
            return (height * hoursFromNoon + 1) / 2;
        }

        private static int eastward(int hour) {
            return hour < NOON ? -1 : hour > NOON ? 1 : 0;
        }

        private static int southward(int hour) {
            return hour >= FIRST_NORTHWARD && hour <= LAST_NORTHWARD ? -1 : 0;
        }

        static boolean isMetOnTheWalk(int millYard, int height, int yard, int hour) {
            int x = millYard % WIDTH;
            int y = millYard / WIDTH;
            int length = length(height, hour);
            for (int step = 1; step <= length; step++) {
                x += eastward(hour);
                y += southward(hour);
                if (x < 0 || x >= WIDTH || y < 0 || y >= DEPTH) {
                    return false;
                }
                if (WIDTH * y + x == yard) {
                    return true;
                }
            }
            return false;
        }

        static boolean liesThere(int millYard, int height, int yard, int hour) {
            int away = distance(millYard, yard);
            int east = yard % WIDTH - millYard % WIDTH;
            int south = yard / WIDTH - millYard / WIDTH;
            boolean isOnTheLine = east == away * eastward(hour) && south == away * southward(hour);
            return isOnTheLine && away >= 1 && away <= length(height, hour);
        }
    }

    /** A state: all that undo() and restore() bring back. Sets of hours have the bit h for the hour h. */
    private static final class Village {
        private final int[] winds;
        private final int[] settings;
        private final int[] tallies;
        private int mills;
        private final int[] heights;
        private final int[] millYards;
        private final int[] tied;
        private int houses;
        private final int[] houseYards;
        private final int[] vain;
        // The hours for which a complaint stands. The points are counted from it, so the two never differ.
        private final int[] standing;

        Village() {
            winds = new int[HOURS];
            settings = new int[FIRST_SETTING.length];
            tallies = new int[TALLIES];
            mills = 0;
            heights = new int[MOST_MILLS];
            millYards = new int[MOST_MILLS];
            tied = new int[MOST_MILLS];
            houses = 0;
            houseYards = new int[MOST_HOUSES];
            vain = new int[MOST_HOUSES];
            standing = new int[MOST_HOUSES * MOST_MILLS * KINDS];
            copyRow(FIRST_SETTING, settings);
            for (int hour = 0; hour < winds.length; hour++) {
                winds[hour] = FIRST_WIND;
            }
        }

        void copyFrom(Village other) {
            copyRow(other.winds, winds);
            copyRow(other.settings, settings);
            copyRow(other.tallies, tallies);
            mills = other.mills;
            copyRow(other.heights, heights);
            copyRow(other.millYards, millYards);
            copyRow(other.tied, tied);
            houses = other.houses;
            copyRow(other.houseYards, houseYards);
            copyRow(other.vain, vain);
            copyRow(other.standing, standing);
        }

        // ---- the map

        boolean hasMill(int mill) {
            return mill >= 0 && mill < mills;
        }

        boolean hasHouse(int house) {
            return house >= 0 && house < houses;
        }

        int millAt(int yard) {
            return firstWith(millYards, mills, yard);
        }

        int houseAt(int yard) {
            return firstWith(houseYards, houses, yard);
        }

        boolean isFree(int yard) {
            return millAt(yard) == NONE && houseAt(yard) == NONE;
        }

        private static int firstWith(int[] yards, int used, int yard) {
            for (int number = 0; number < used; number++) {
                if (at(yards, number) == yard) {
                    return number;
                }
            }
            return NONE;
        }

        // ---- hours, wind, sails

        int setting(int which) {
            return at(settings, which);
        }

        int windAt(int hour) {
            return at(winds, hour);
        }

        boolean blows(int hour) {
            return windAt(hour) >= LEAST_TURNING_WIND;
        }

        int tiedHours(int mill) {
            return at(tied, mill);
        }

        int tiedHoursOfAll() {
            int hours = 0;
            for (int mill = 0; mill < mills; mill++) {
                hours += Integer.bitCount(tiedHours(mill));
            }
            return hours;
        }

        boolean isTied(int mill, int hour) {
            return (tiedHours(mill) >> hour & 1) != 0;
        }

        void tie(int mill, int hour) {
            put(tied, mill, tiedHours(mill) | 1 << hour);
        }

        void untie(int mill, int hour) {
            put(tied, mill, tiedHours(mill) & ~(1 << hour));
        }

        boolean turns(int mill, int hour) {
            return blows(hour) && !isTied(mill, hour);
        }

        int turningHours(int mill) {
            int hours = 0;
            for (int hour = 0; hour < HOURS; hour++) {
                if (turns(mill, hour)) {
                    hours |= 1 << hour;
                }
            }
            return hours;
        }

        int grainOf(int mill) {
            int grain = 0;
            for (int hour = 0; hour < HOURS; hour++) {
                if (turns(mill, hour)) {
                    grain += windAt(hour);
                }
            }
            return grain;
        }

        int grainOfAll() {
            int grain = 0;
            for (int mill = 0; mill < mills; mill++) {
                grain += grainOf(mill);
            }
            return grain;
        }

        int grainOfAllIfUntied() {
            int grain = 0;
            for (int hour = 0; hour < HOURS; hour++) {
                if (blows(hour)) {
                    grain += windAt(hour);
                }
            }
            return grain * mills;
        }

        // ---- noise, shadows

        private int noiseIfUntied(int mill, int yard, int hour) {
            int wind = windAt(hour);
            if (wind < LEAST_TURNING_WIND) {
                return 0;
            }
            return Math.max(0, 2 * wind - distance(at(millYards, mill), yard));
        }

        int noiseIn(int mill, int yard, int hour) {
            return isTied(mill, hour) ? 0 : noiseIfUntied(mill, yard, hour);
        }

        int noiseOfAllMills(int house, int hour) {
            int noise = 0;
            for (int mill = 0; mill < mills; mill++) {
                noise += noiseIn(mill, at(houseYards, house), hour);
            }
            return noise;
        }

        private int borneNoise(int hour) {
            boolean isNight = hour >= FIRST_NIGHT_HOUR || hour <= LAST_NIGHT_HOUR;
            return setting(isNight ? BORNE_BY_NIGHT : BORNE_BY_DAY);
        }

        private boolean troublesIfUntied(int mill, int house, int kind, int hour) {
            int yard = at(houseYards, house);
            if (kind == BY_NOISE) {
                return noiseIfUntied(mill, yard, hour) > borneNoise(hour);
            }
            return blows(hour) && Shadows.liesThere(at(millYards, mill), at(heights, mill), yard, hour);
        }

        /** How many houses a mill would trouble in an hour, by noise or by shadow, if its sails were not tied. */
        int troubledIfUntied(int mill, int hour) {
            int troubled = 0;
            for (int house = 0; house < houses; house++) {
                boolean byNoise = troublesIfUntied(mill, house, BY_NOISE, hour);
                if (byNoise || troublesIfUntied(mill, house, BY_SHADOW, hour)) {
                    troubled++;
                }
            }
            return troubled;
        }

        int votesForUntying(int mill, int hour) {
            return houses - troubledIfUntied(mill, hour);
        }

        int troubledHours(int house, int kind) {
            int hours = 0;
            for (int mill = 0; mill < mills; mill++) {
                for (int hour = 0; hour < HOURS; hour++) {
                    if (turns(mill, hour) && troublesIfUntied(mill, house, kind, hour)) {
                        hours |= 1 << hour;
                    }
                }
            }
            return hours;
        }

        // ---- complaints

        private static int placeOf(int house, int mill, int kind) {
            return (house * MOST_MILLS + mill) * KINDS + kind;
        }

        private boolean stands(int house, int mill, int kind, int hour) {
            return (at(standing, placeOf(house, mill, kind)) >> hour & 1) != 0;
        }

        void letStand(int house, int mill, int kind, int hour) {
            int place = placeOf(house, mill, kind);
            put(standing, place, at(standing, place) | 1 << hour);
        }

        void dropFor(int house, int mill, int hour) {
            for (int kind = 0; kind < KINDS; kind++) {
                int place = placeOf(house, mill, kind);
                put(standing, place, at(standing, place) & ~(1 << hour));
            }
        }

        int standingFor(int house, int mill, int hour) {
            int complaints = 0;
            for (int kind = 0; kind < KINDS; kind++) {
                if (stands(house, mill, kind, hour)) {
                    complaints++;
                }
            }
            return complaints;
        }

        private int standingOfDay(int house, int mill) {
            int complaints = 0;
            for (int kind = 0; kind < KINDS; kind++) {
                complaints += Integer.bitCount(at(standing, placeOf(house, mill, kind)));
            }
            return complaints;
        }

        int standingOf(int house) {
            int complaints = 0;
            for (int mill = 0; mill < mills; mill++) {
                complaints += standingOfDay(house, mill);
            }
            return complaints;
        }

        int points(int mill, int hour) {
            int points = 0;
            for (int house = 0; house < houses; house++) {
                points += standingFor(house, mill, hour);
            }
            return points;
        }

        int pointsOfDay(int mill) {
            int points = 0;
            for (int house = 0; house < houses; house++) {
                points += standingOfDay(house, mill);
            }
            return points;
        }

        boolean isBarred(int house) {
            return at(vain, house) >= VAIN_TO_BE_BARRED;
        }

        /** The reason for which a complaint would be refused, or 0; an error if there can be no such complaint. */
        int reasonAgainst(int house, int mill, int kind, int hour) {
            if (!hasHouse(house) || !hasMill(mill) || !isHour(hour)) {
                return UNKNOWN;
            }
            if (kind != BY_NOISE && kind != BY_SHADOW) {
                return BAD_VALUE;
            }
            if (isBarred(house)) {
                return 1;
            }
            if (stands(house, mill, kind, hour)) {
                return 2;
            }
            if (isTied(mill, hour)) {
                return 3;
            }
            if (!blows(hour)) {
                return 4;
            }
            if (kind == BY_SHADOW && !Shadows.hasSun(hour)) {
                return 5;
            }
            if (troublesIfUntied(mill, house, kind, hour)) {
                return 0;
            }
            return kind == BY_NOISE ? 5 : 6;
        }
    }

    /** The latest states, in a ring: the oldest one gives its place to the newest. */
    private static final class History {
        private final Village[] states;
        private int oldest;
        private int size;

        History() {
            states = new Village[MOST_STATES];
            for (int place = 0; place < states.length; place++) {
                states[place] = new Village();
            }
            oldest = 0;
            size = 0;
        }

        private Village stateAt(int age) {
            int place = (oldest + age) % MOST_STATES;
            return place >= 0 && place < states.length ? states[place] : null;
        }

        void add(Village village) {
            if (size == MOST_STATES) {
                oldest = (oldest + 1) % MOST_STATES;
                size--;
            }
            Village place = stateAt(size);
            if (place != null) {
                place.copyFrom(village);
                size++;
            }
        }

        void takeLatest(Village village) {
            Village latest = stateAt(size - 1);
            if (size > 0 && latest != null) {
                village.copyFrom(latest);
                size--;
            }
        }
    }

    /** The text that is typed, and what is read from it. */
    private static final class Text {
        private final char[] signs;
        private int length;

        Text() {
            signs = new char[MOST_SIGNS];
            length = 0;
        }

        int append(char sign) {
            if (length < 0 || length >= signs.length) {
                return FULL;
            }
            signs[length] = sign;
            length++;
            return length;
        }

        char signAt(int index) {
            return index >= 0 && index < length && index < signs.length ? signs[index] : (char) 0;
        }

        int firstFault() {
            int place = Grammar.PART;
            for (int index = 0; index < length; index++) {
                place = Grammar.after(place, signAt(index));
                if (place == Grammar.NOWHERE) {
                    return index;
                }
            }
            return Grammar.mayEnd(place) ? NONE : length;
        }

        int digitAt(int index) {
            return signAt(index) - '0';
        }

        int yardAt(int index) {
            return WIDTH * digitAt(index + 1) + signAt(index) - 'a';
        }

        int numberAt(int start, int end) {
            int number = 0;
            for (int index = start; index < end; index++) {
                number = 10 * number + digitAt(index);
            }
            return number;
        }
    }

    /** What may stand where in a text: a place tells what is awaited next. */
    private static final class Grammar {
        static final int NOWHERE = -1;
        static final int PART = 0;
        private static final int PART_END = 1;
        private static final int HEIGHT = 2;
        private static final int AT = 3;
        private static final int YARD_LETTER = 4;
        private static final int YARD_DIGIT = 5;
        private static final int WIND_HOUR = 6;
        private static final int WIND_HOUR_AFTER_1 = 7;
        private static final int WIND_HOUR_AFTER_2 = 8;
        private static final int EQUALS = 9;
        private static final int WIND = 10;
        private static final int HOUSE = 11;
        private static final int MILL = 12;
        private static final int KIND = 13;
        private static final int HOUR = 14;
        private static final int HOUR_AFTER_1 = 15;
        private static final int HOUR_AFTER_2 = 16;

        private Grammar() {
        }

        static boolean mayEnd(int place) {
            return place == PART_END || place == HOUR_AFTER_1 || place == HOUR_AFTER_2;
        }

        /** The place after a sign, or NOWHERE if the sign is not allowed at this place. */
        static int after(int place, char sign) {
            switch (place) {
                case PART: return afterPartName(sign);
                case PART_END: return afterPart(sign);
                case HEIGHT: return isIn(sign, '1', '5') ? AT : NOWHERE;
                case AT: return sign == '@' ? YARD_LETTER : NOWHERE;
                case YARD_LETTER: return isIn(sign, 'a', 'l') ? YARD_DIGIT : NOWHERE;
                case YARD_DIGIT: return isIn(sign, '0', '7') ? PART_END : NOWHERE;
                case WIND_HOUR: return afterHourDigit(sign, WIND_HOUR_AFTER_1, WIND_HOUR_AFTER_2, EQUALS);
                case WIND_HOUR_AFTER_1: return isIn(sign, '0', '9') ? EQUALS : afterWindHour(sign);
                case WIND_HOUR_AFTER_2: return isIn(sign, '0', '3') ? EQUALS : afterWindHour(sign);
                case EQUALS: return afterWindHour(sign);
                case WIND: return isIn(sign, '0', '9') ? PART_END : NOWHERE;
                case HOUSE: return isIn(sign, '0', '9') ? MILL : NOWHERE;
                case MILL: return isIn(sign, '0', '3') ? KIND : NOWHERE;
                case KIND: return sign == 'n' || sign == 's' ? HOUR : NOWHERE;
                case HOUR: return afterHourDigit(sign, HOUR_AFTER_1, HOUR_AFTER_2, PART_END);
                case HOUR_AFTER_1: return isIn(sign, '0', '9') ? PART_END : afterPart(sign);
                case HOUR_AFTER_2: return isIn(sign, '0', '3') ? PART_END : afterPart(sign);
                default: return NOWHERE;
            }
        }

        private static int afterPartName(char sign) {
            switch (sign) {
                case 'm': return HEIGHT;
                case 'h': return AT;
                case 'w': return WIND_HOUR;
                case 'c': return HOUSE;
                default: return NOWHERE;
            }
        }

        private static int afterPart(char sign) {
            return sign == ';' ? PART : NOWHERE;
        }

        private static int afterWindHour(char sign) {
            return sign == '=' ? WIND : NOWHERE;
        }

        /** After an hour's first digit: a second one may follow a 1 or a 2 alone. */
        private static int afterHourDigit(char sign, int after1, int after2, int afterOther) {
            if (sign == '1') {
                return after1;
            }
            if (sign == '2') {
                return after2;
            }
            return isIn(sign, '0', '9') ? afterOther : NOWHERE;
        }

        private static boolean isIn(char sign, char first, char last) {
            return sign >= first && sign <= last;
        }
    }
}
