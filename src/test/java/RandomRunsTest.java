import java.util.Random;

/** All promises: long runs of calls, the same ones each time, on the class and on SlowDesk; all answers are alike. */
public final class RandomRunsTest {
    private static final int RUNS = 4000;
    // An object answers 512 calls: these, those of one more round (at most 64), and those that tell its state at last.
    private static final int CALLS = 370;
    private static final int CALLS_THAT_TELL = 76;
    private static final String SIGNS = "mhwc0123456789@=;nsabcdefghijkl";
    private static final int[] ODD = {-1, 4, 10, 24, 96, 100, Integer.MAX_VALUE, Integer.MIN_VALUE, -2, 1 << 30};

    private final Random random;
    private final MillComplaints desk = new MillComplaints();
    private final SlowDesk slow = new SlowDesk();
    private final int corner;
    private final StringBuilder log = new StringBuilder();
    private final int[] seen;
    private int calls = 0;

    private RandomRunsTest(int run, int[] seen) {
        random = new Random(run);
        corner = random.nextInt(48);
        this.seen = seen;
    }

    public static void main(String[] args) {
        int[] seen = new int[16];
        for (int run = 0; run < RUNS; run++) {
            new RandomRunsTest(run, seen).run(run);
        }
        System.out.println("seen of each kind: " + java.util.Arrays.toString(seen));
        for (int kind = 0; kind < 16; kind++) {
            Due.due("enough was seen of the kind " + kind, seen[kind] >= 50 ? 1 : 0, 1);
        }
        Due.end();
    }

    private void run(int run) {
        boolean isLike = true;
        while (isLike && calls < CALLS) {
            log.setLength(0);
            isLike = round(calls < 25 && run % 2 == 0);
        }
        int before = calls;
        isLike = isLike && tellsAlike();
        if (!isLike || calls > before + CALLS_THAT_TELL) {
            Due.due("run " + run + ", call " + calls + ": " + log, 0, 1);
        }
    }

    private boolean round(boolean isEarly) {
        if (isEarly) {
            return settle();
        }
        switch (random.nextInt(6)) {
            case 0: case 1: return act();
            case 2: case 3: return ask();
            default: return actOnTied();
        }
    }

    private boolean tellsAlike() {
        boolean isLike = true;
        for (int what = 0; isLike && what <= 15; what++) {
            isLike = like("count " + what, desk.count(what), slow.count(what));
        }
        for (int mill = 0; isLike && mill < slow.count(0); mill++) {
            for (int what = 2; isLike && what <= 5; what++) {
                isLike = like("millOf " + what, desk.millOf(mill, what), slow.millOf(mill, what));
            }
            isLike = isLike && like("quietHours", desk.quietHours(mill), slow.quietHours(mill));
        }
        for (int house = 0; isLike && house < slow.count(1); house++) {
            for (int what = 1; isLike && what <= 5; what += what == 1 ? 2 : 1) {
                isLike = like("houseOf " + what, desk.houseOf(house, what), slow.houseOf(house, what));
            }
        }
        return isLike;
    }

    private boolean like(String call, int got, int want) {
        calls++;
        log.append(call).append(" answered ").append(got).append(", due is ").append(want);
        return got == want;
    }

    private int upTo(int bound) {
        return random.nextInt(60) == 0 ? ODD[random.nextInt(ODD.length)] : random.nextInt(bound);
    }

    /** A yard: in most cases one near the corner of this run, that there be noise and shadows. */
    private int yard() {
        return random.nextInt(4) == 0 ? upTo(96) : (corner + 12 * random.nextInt(4) + random.nextInt(5)) % 96;
    }

    private int mill() {
        return upTo(random.nextInt(5) == 0 ? 4 : Math.max(1, slow.count(0)));
    }

    private int house() {
        return upTo(random.nextInt(5) == 0 ? 10 : Math.max(1, slow.count(1)));
    }

    private boolean settle() {
        int height = upTo(6);
        int yard = yard();
        int from = upTo(24);
        int wind = upTo(10);
        switch (random.nextInt(4)) {
            case 0: return like("mill", desk.mill(height, yard), slow.mill(height, yard));
            case 1: return like("wind", desk.wind(from, from, wind), slow.wind(from, from, wind));
            default: return like("house", desk.house(yard), slow.house(yard));
        }
    }

    private boolean act() {
        int a = mill();
        int b = house();
        int c = upTo(2);
        int d = upTo(24);
        switch (random.nextInt(16)) {
            case 0: case 1: return settle();
            case 2: {
                int from = upTo(24);
                int to = random.nextInt(3) == 0 ? upTo(24) : from;
                int wind = upTo(10);
                return like("wind", desk.wind(from, to, wind), slow.wind(from, to, wind));
            }
            case 3: {
                int which = upTo(4);
                int value = upTo(which == 3 ? 30 : which == 2 ? 4 : 10);
                return like("set", desk.set(which, value), slow.set(which, value));
            }
            case 4: return typeAll();
            case 5: return like("undo", desk.undo(), slow.undo());
            case 6: return random.nextInt(3) == 0 ? like("keep", desk.keep(), slow.keep())
                : random.nextInt(3) != 0 || like("restore", desk.restore(), slow.restore());
            case 7: {
                char sign = random.nextInt(9) == 0 ? (char) random.nextInt(65536) : SIGNS.charAt(random.nextInt(SIGNS.length()));
                return like("type", desk.type(sign), slow.type(sign)) && like("fault", desk.fault(), slow.fault());
            }
            case 8: return like("doAll", desk.doAll(), slow.doAll());
            case 9: case 10: case 11: return complain(b, a, c, d);
            default: return complainWell();
        }
    }

    private boolean complain(int house, int mill, int kind, int hour) {
        int points = desk.complain(house, mill, kind, hour);
        if (points >= 1) {
            seen[points > 1 ? 0 : 1]++;
        } else if (points <= -11) {
            seen[-9 + -points]++;
        }
        return like("complain", points, slow.complain(house, mill, kind, hour));
    }

    /** A complaint that is heard, if one is found. */
    private boolean complainWell() {
        for (int round = 0; round < 20; round++) {
            int house = house();
            int mill = mill();
            int kind = random.nextInt(2);
            int hour = random.nextInt(24);
            if (slow.why(house, mill, kind, hour) == 0) {
                return complain(house, mill, kind, hour);
            }
        }
        return true;
    }

    private boolean typeAll() {
        String text = text();
        boolean isLike = like("clearText", desk.clearText(), slow.clearText());
        for (int index = 0; index < text.length(); index++) {
            isLike &= desk.type(text.charAt(index)) == slow.type(text.charAt(index));
            calls++;
        }
        int got = desk.fault();
        isLike &= like(" fault of " + text, got, slow.fault());
        if (got == -5) {
            int done = desk.doAll();
            seen[done < 0 ? 8 : 9]++;
            isLike &= like(" doAll of " + text, done, slow.doAll());
        }
        return isLike;
    }

    private String text() {
        StringBuilder text = new StringBuilder();
        int parts = 1 + random.nextInt(6);
        for (int part = 0; part < parts; part++) {
            int yard = Math.floorMod(yard(), 96);
            String told = "@" + (char) ('a' + yard % 12) + yard / 12;
            int hour = random.nextInt(24);
            switch (random.nextInt(8)) {
                case 0: text.append("m").append(1 + random.nextInt(5)).append(told); break;
                case 1: text.append("h").append(told); break;
                case 2: case 3: text.append("w").append(hour).append("=").append(random.nextInt(10)); break;
                default:
                    text.append("c").append(random.nextInt(Math.max(1, slow.count(1)))).append(random.nextInt(Math.max(1, slow.count(0))));
                    text.append(random.nextBoolean() ? "n" : "s").append(hour);
            }
            text.append(part == parts - 1 ? "" : ";");
        }
        if (random.nextInt(4) == 0) {
            text.setCharAt(random.nextInt(text.length()), SIGNS.charAt(random.nextInt(SIGNS.length())));
        }
        return text.toString();
    }

    /** A suit or a vote, in most cases for sails that are tied. */
    private boolean actOnTied() {
        int mill = mill();
        int tied = slow.millOf(mill, 2);
        int hour = upTo(24);
        for (int round = 0; round < 24 && tied > 0 && random.nextInt(20) != 0 && (tied >> (hour & 31) & 1) == 0; round++) {
            hour = (Math.floorMod(hour, 24) + 1) % 24;
        }
        if (random.nextInt(8) == 0) {
            int votes = desk.vote(mill, hour);
            seen[votes < 0 ? 10 : slow.count(7) > 0 ? 11 : 12]++;
            return like("vote", votes, slow.vote(mill, hour));
        }
        if (random.nextInt(4) == 0) {
            int house = house();
            int won = desk.sue(mill, house, hour);
            seen[won < 0 ? 13 : won == 0 ? 14 : 15]++;
            return like("sue", won, slow.sue(mill, house, hour));
        }
        return random.nextBoolean() ? complainWell() : ask();
    }

    private boolean ask() {
        int mill = mill();
        int house = house();
        int hour = upTo(24);
        int yard = yard();
        int what = upTo(7);
        int kind = upTo(2);
        switch (random.nextInt(13)) {
            case 0: return like("yardOf", desk.yardOf(yard, kind), slow.yardOf(yard, kind));
            case 1: case 2: return like("millOf " + what, desk.millOf(mill, what), slow.millOf(mill, what));
            case 3: case 4: return like("houseOf " + what, desk.houseOf(house, what), slow.houseOf(house, what));
            case 5: return like("noise", desk.noise(mill, yard, hour), slow.noise(mill, yard, hour));
            case 6: return like("shadow", desk.shadow(mill, yard, hour, kind), slow.shadow(mill, yard, hour, kind));
            case 7: return like("why", desk.why(house, mill, kind, hour), slow.why(house, mill, kind, hour));
            case 8: what = upTo(17); return like("count " + what, desk.count(what), slow.count(what));
            case 9: return like("ground", Float.floatToIntBits(desk.ground()), Float.floatToIntBits(slow.ground()));
            case 10: return like("quietHours", desk.quietHours(mill), slow.quietHours(mill));
            case 11: return like("loudest", desk.loudest(hour), slow.loudest(hour))
                && like("bestTied", desk.bestTied(mill), slow.bestTied(mill));
            default: return like("ifVoted", desk.ifVoted(mill, hour), slow.ifVoted(mill, hour));
        }
    }
}
