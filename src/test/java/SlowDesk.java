import java.util.ArrayDeque;
import java.util.ArrayList;
import java.util.HashSet;
import java.util.List;
import java.util.Set;
import java.util.regex.Matcher;
import java.util.regex.Pattern;

/** The document once more, in another form: sets of records, a new state for each act, texts by a pattern. */
final class SlowDesk {
    private static final String HOUR = "(?:1[0-9]|2[0-3]|[0-9])";
    private static final String PART = "(?:m[1-5]@[a-l][0-7]|h@[a-l][0-7]|w" + HOUR + "=[0-9]|c[0-9][0-3][ns]" + HOUR + ")";
    private static final Pattern TEXT = Pattern.compile(PART + "(?:;" + PART + ")*");

    record Mill(int height, int x, int y) {
    }

    record House(int x, int y) {
    }

    record Complaint(int house, int mill, int kind, int hour) {
    }

    record Sails(int mill, int hour) {
    }

    private static final class State {
        final List<Mill> mills = new ArrayList<>();
        final List<House> houses = new ArrayList<>();
        final int[] wind = new int[24];
        final int[] setting = {6, 3, 2, 8};
        final Set<Complaint> complaints = new HashSet<>();
        final Set<Sails> tied = new HashSet<>();
        final int[] vain = new int[10];
        int heard, refused, suits, won, votes, untying;

        State() {
            java.util.Arrays.fill(wind, 3);
        }

        State copy() {
            State copy = new State();
            copy.mills.addAll(mills);
            copy.houses.addAll(houses);
            System.arraycopy(wind, 0, copy.wind, 0, 24);
            System.arraycopy(setting, 0, copy.setting, 0, 4);
            copy.complaints.addAll(complaints);
            copy.tied.addAll(tied);
            System.arraycopy(vain, 0, copy.vain, 0, 10);
            copy.heard = heard;
            copy.refused = refused;
            copy.suits = suits;
            copy.won = won;
            copy.votes = votes;
            copy.untying = untying;
            return copy;
        }
    }

    private State s = new State();
    private State kept = null;
    private final ArrayDeque<State> history = new ArrayDeque<>();
    private String text = "";

    private interface Act {
        int on();
    }

    private int act(Act act) {
        State before = s;
        s = before.copy();
        int answer = act.on();
        boolean isDone = answer >= 0 || answer <= -14 && answer >= -16;
        if (!isDone) {
            s = before;
            return answer;
        }
        history.addLast(before);
        if (history.size() > 4) {
            history.removeFirst();
        }
        return answer;
    }

    private boolean noMill(int mill) {
        return mill < 0 || mill >= s.mills.size();
    }

    private boolean noHouse(int house) {
        return house < 0 || house >= s.houses.size();
    }

    private static boolean noHour(int hour) {
        return hour < 0 || hour > 23;
    }

    private static boolean noYard(int yard) {
        return yard < 0 || yard > 95;
    }

    private static int yard(int x, int y) {
        return 12 * y + x;
    }

    int mill(int height, int yard) {
        return act(() -> bringMill(height, yard));
    }

    private int bringMill(int height, int yard) {
        if (noYard(yard)) return -1;
        if (height < 1 || height > 5) return -2;
        if (yardOf(yard, 0) != -5 || yardOf(yard, 1) != -5) return -4;
        if (s.mills.size() == 4) return -3;
        s.mills.add(new Mill(height, yard % 12, yard / 12));
        return s.mills.size() - 1;
    }

    int house(int yard) {
        return act(() -> bringHouse(yard));
    }

    private int bringHouse(int yard) {
        if (noYard(yard)) return -1;
        if (yardOf(yard, 0) != -5 || yardOf(yard, 1) != -5) return -4;
        if (s.houses.size() == 10) return -3;
        s.houses.add(new House(yard % 12, yard / 12));
        return s.houses.size() - 1;
    }

    int wind(int from, int to, int wind) {
        return act(() -> {
            if (noHour(from) || noHour(to) || from > to) return -1;
            if (wind < 0 || wind > 9) return -2;
            int others = 0;
            for (int hour = from; hour <= to; hour++) {
                others += s.wind[hour] == wind ? 0 : 1;
                s.wind[hour] = wind;
            }
            return others == 0 ? -5 : others;
        });
    }

    int set(int which, int value) {
        return act(() -> {
            if (which < 0 || which > 3 || value < (which == 2 ? 1 : 0)) return -2;
            if (value > (which == 2 ? 9 : which == 3 ? 99 : 20)) return -2;
            int previous = s.setting[which];
            s.setting[which] = value;
            return previous == value ? -5 : previous;
        });
    }

    int doAll() {
        int fault = fault();
        if (fault != -5) return -100 - fault;
        return act(() -> {
            String[] parts = text.split(";");
            for (String part : parts) {
                int answer = doPart(part);
                if (answer == -1 || answer == -3 || answer == -4) return answer;
            }
            return parts.length;
        });
    }

    private int doPart(String part) {
        switch (part.charAt(0)) {
            case 'm': return bringMill(part.charAt(1) - 48, yard(part.charAt(3) - 97, part.charAt(4) - 48));
            case 'h': return bringHouse(yard(part.charAt(2) - 97, part.charAt(3) - 48));
            case 'w':
                s.wind[Integer.parseInt(part.substring(1, part.indexOf('=')))] = part.charAt(part.length() - 1) - 48;
                return 0;
            default:
                int kind = "ns".indexOf(part.charAt(3));
                return lodge(part.charAt(1) - 48, part.charAt(2) - 48, kind, Integer.parseInt(part.substring(4)));
        }
    }

    int complain(int house, int mill, int kind, int hour) {
        return act(() -> lodge(house, mill, kind, hour));
    }

    private int lodge(int house, int mill, int kind, int hour) {
        int why = why(house, mill, kind, hour);
        if (why < 0) return why;
        if (why >= 4) {
            s.vain[house]++;
            s.refused++;
        }
        if (why > 0) return -10 - why;
        s.complaints.add(new Complaint(house, mill, kind, hour));
        s.heard++;
        int points = points(mill, hour);
        if (points >= s.setting[2]) s.tied.add(new Sails(mill, hour));
        return points;
    }

    private int points(int mill, int hour) {
        return (int) s.complaints.stream().filter(c -> c.mill == mill && c.hour == hour).count();
    }

    int sue(int mill, int house, int hour) {
        return act(() -> {
            if (noMill(mill) || noHouse(house) || noHour(hour)) return -1;
            boolean stands = s.complaints.contains(new Complaint(house, mill, 0, hour))
                || s.complaints.contains(new Complaint(house, mill, 1, hour));
            if (!s.tied.contains(new Sails(mill, hour)) || !stands) return -4;
            s.suits++;
            long tied = s.tied.stream().filter(t -> t.mill == mill).count();
            if (s.wind[hour] * tied <= s.setting[3]) return 0;
            s.won++;
            s.vain[house]++;
            s.complaints.removeIf(c -> c.house == house && c.mill == mill && c.hour == hour);
            if (points(mill, hour) < s.setting[2]) s.tied.remove(new Sails(mill, hour));
            return 1;
        });
    }

    int vote(int mill, int hour) {
        return act(() -> {
            if (noMill(mill) || noHour(hour)) return -1;
            if (!s.tied.contains(new Sails(mill, hour)) || s.houses.isEmpty()) return -4;
            s.votes++;
            int votes = ifVoted(mill, hour);
            if (votes > s.houses.size() / 2.0) {
                s.untying++;
                s.tied.remove(new Sails(mill, hour));
                s.complaints.removeIf(c -> c.mill == mill && c.hour == hour);
            }
            return votes;
        });
    }

    int type(char character) {
        if (text.length() == 60) return -3;
        text += character;
        return text.length();
    }

    int clearText() {
        int length = text.length();
        text = "";
        return length;
    }

    int fault() {
        for (int length = 1; length <= text.length(); length++) {
            Matcher matcher = TEXT.matcher(text.substring(0, length));
            if (!matcher.matches() && !matcher.hitEnd()) return length - 1;
        }
        return TEXT.matcher(text).matches() ? -5 : text.length();
    }

    int undo() {
        if (history.isEmpty()) return -5;
        s = history.removeLast();
        return history.size();
    }

    int keep() {
        kept = s.copy();
        return s.houses.size();
    }

    int restore() {
        if (kept == null) return -5;
        return act(() -> {
            s = kept.copy();
            return s.houses.size();
        });
    }

    int yardOf(int yard, int what) {
        if (noYard(yard)) return -1;
        if (what != 0 && what != 1) return -2;
        int found = what == 1 ? s.houses.indexOf(new House(yard % 12, yard / 12)) : -1;
        for (int mill = 0; what == 0 && mill < s.mills.size(); mill++) {
            if (yard(s.mills.get(mill).x, s.mills.get(mill).y) == yard) found = mill;
        }
        return found < 0 ? -5 : found;
    }

    private interface OfHour {
        boolean holds(int hour);
    }

    private static int set(OfHour question) {
        int set = 0;
        for (int hour = 23; hour >= 0; hour--) {
            set = 2 * set + (question.holds(hour) ? 1 : 0);
        }
        return set;
    }

    private boolean turns(int mill, int hour) {
        return s.wind[hour] > 1 && !s.tied.contains(new Sails(mill, hour));
    }

    private int grain(int mill, boolean isUntied) {
        int grain = 0;
        for (int hour = 0; hour < 24; hour++) {
            grain += s.wind[hour] > 1 && (isUntied || turns(mill, hour)) ? s.wind[hour] : 0;
        }
        return grain;
    }

    int millOf(int mill, int what) {
        if (noMill(mill)) return -1;
        switch (what) {
            case 0: return s.mills.get(mill).height;
            case 1: return yard(s.mills.get(mill).x, s.mills.get(mill).y);
            case 2: return set(hour -> s.tied.contains(new Sails(mill, hour)));
            case 3: return set(hour -> turns(mill, hour));
            case 4: return grain(mill, false);
            case 5: return (int) s.complaints.stream().filter(c -> c.mill == mill).count();
            default: return -2;
        }
    }

    int houseOf(int house, int what) {
        if (noHouse(house)) return -1;
        switch (what) {
            case 0: return yard(s.houses.get(house).x, s.houses.get(house).y);
            case 1: return s.vain[house];
            case 2: return s.vain[house] > 2 ? 1 : 0;
            case 3: return (int) s.complaints.stream().filter(c -> c.house == house).count();
            case 4: case 5: return set(hour -> {
                boolean isTroubled = false;
                for (int mill = 0; mill < s.mills.size(); mill++) {
                    isTroubled |= turns(mill, hour) && (what == 4 ? byNoise(house, mill, hour) : byShadow(house, mill, hour));
                }
                return isTroubled;
            });
            default: return -2;
        }
    }

    private int noiseIfTurning(int mill, int x, int y, int hour) {
        Mill m = s.mills.get(mill);
        int noise = 2 * s.wind[hour];
        while (noise > 0 && (Math.abs(m.x - x) > 2 * s.wind[hour] - noise || Math.abs(m.y - y) > 2 * s.wind[hour] - noise)) {
            noise--;
        }
        return noise;
    }

    private boolean byNoise(int house, int mill, int hour) {
        House h = s.houses.get(house);
        int borne = List.of(22, 23, 0, 1, 2, 3, 4, 5).contains(hour) ? s.setting[1] : s.setting[0];
        return noiseIfTurning(mill, h.x, h.y, hour) > borne;
    }

    private boolean dark(int mill, int x, int y, int hour) {
        if (hour < 6 || hour > 18) return false;
        Mill m = s.mills.get(mill);
        String way = hour < 10 ? "W" : hour < 12 ? "NW" : hour == 12 ? "N" : hour < 15 ? "NE" : "E";
        int length = (int) Math.floor((m.height * Math.abs(12 - hour) + 1) / 2.0);
        Set<Integer> yards = new HashSet<>();
        for (int step = 1; step <= length; step++) {
            int darkX = m.x + (way.contains("E") ? step : way.contains("W") ? -step : 0);
            int darkY = m.y - (way.contains("N") ? step : 0);
            if (darkX >= 0 && darkX <= 11 && darkY >= 0) yards.add(yard(darkX, darkY));
        }
        return yards.contains(yard(x, y));
    }

    private boolean byShadow(int house, int mill, int hour) {
        return dark(mill, s.houses.get(house).x, s.houses.get(house).y, hour);
    }

    int noise(int mill, int yard, int hour) {
        if (noMill(mill) || noYard(yard) || noHour(hour)) return -1;
        return turns(mill, hour) ? noiseIfTurning(mill, yard % 12, yard / 12, hour) : 0;
    }

    int shadow(int mill, int yard, int hour, int way) {
        if (noMill(mill) || noYard(yard) || noHour(hour)) return -1;
        if (way != 0 && way != 1) return -2;
        return dark(mill, yard % 12, yard / 12, hour) ? 1 : 0;
    }

    int why(int house, int mill, int kind, int hour) {
        if (noHouse(house) || noMill(mill) || noHour(hour)) return -1;
        if (kind != 0 && kind != 1) return -2;
        if (s.vain[house] > 2) return 1;
        if (s.complaints.contains(new Complaint(house, mill, kind, hour))) return 2;
        if (s.tied.contains(new Sails(mill, hour))) return 3;
        if (s.wind[hour] < 2) return 4;
        if (kind == 0) return byNoise(house, mill, hour) ? 0 : 5;
        if (hour < 6 || hour > 18) return 5;
        return byShadow(house, mill, hour) ? 0 : 6;
    }

    int count(int what) {
        int grain = 0;
        for (int mill = 0; mill < s.mills.size(); mill++) {
            grain += grain(mill, false);
        }
        int[] counts = {s.mills.size(), s.houses.size(), s.heard, s.refused, s.suits, s.won, s.votes, s.untying,
            s.tied.size(), grain, history.size(), text.length(), s.setting[0], s.setting[1], s.setting[2], s.setting[3]};
        return what < 0 || what > 15 ? -2 : counts[what];
    }

    float ground() {
        int untied = 0;
        for (int mill = 0; mill < s.mills.size(); mill++) {
            untied += grain(mill, true);
        }
        return untied == 0 ? 1.0f : (float) count(9) / (float) untied;
    }

    private int troubled(int mill, int hour) {
        int troubled = 0;
        for (int house = 0; house < s.houses.size(); house++) {
            boolean is = byNoise(house, mill, hour) || byShadow(house, mill, hour);
            troubled += is && s.wind[hour] > 1 ? 1 : 0;
        }
        return troubled;
    }

    int quietHours(int mill) {
        return noMill(mill) ? -1 : set(hour -> s.wind[hour] > 1 && troubled(mill, hour) == 0);
    }

    int loudest(int hour) {
        if (noHour(hour)) return -1;
        int best = -5;
        int most = 0;
        for (int house = s.houses.size() - 1; house >= 0; house--) {
            int noise = 0;
            for (int mill = 0; mill < s.mills.size(); mill++) {
                noise += noise(mill, houseOf(house, 0), hour);
            }
            if (noise > 0 && noise >= most) {
                most = noise;
                best = house;
            }
        }
        return best;
    }

    int bestTied(int mill) {
        if (noMill(mill)) return -1;
        return java.util.stream.IntStream.range(0, 24).boxed()
            .filter(hour -> turns(mill, hour) && troubled(mill, hour) > 0)
            .min(java.util.Comparator.<Integer>comparingInt(hour -> -troubled(mill, hour))
                .thenComparingInt(hour -> s.wind[hour]).thenComparingInt(hour -> hour))
            .orElse(-5);
    }

    int ifVoted(int mill, int hour) {
        return noMill(mill) || noHour(hour) ? -1 : s.houses.size() - troubled(mill, hour);
    }
}
