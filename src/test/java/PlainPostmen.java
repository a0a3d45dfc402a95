import java.util.ArrayList;
import java.util.HashSet;
import java.util.List;
import java.util.Map;
import java.util.Set;
import java.util.TreeMap;

/**
 * The document written a second time, slowly and without thought of the first: each call walks all anew.
 * PlainTest holds the answers of both against each other.
 */
final class PlainPostmen {
    private static final int NONE = -1, BAD = -2, FULL = -4;

    private record Begin(int pace, int facing, int minute) {
    }

    private record Told(int from, int minute, int to, int time) {
    }

    /** All men at one half minute, and the pairs who met at it. */
    private static final class Moment {
        final Map<Integer, Integer> place = new TreeMap<>();
        final Map<Integer, Integer> facing = new TreeMap<>();
        final Map<Integer, Integer> load = new TreeMap<>();
        final Set<String> pairs = new HashSet<>();

        int holder(int bag) {
            for (int man : load.keySet()) {
                if (load.get(man) == bag) {
                    return man;
                }
            }
            return NONE;
        }
    }

    private String text = "";
    private int fault;
    private int length = 1;
    private List<Begin> men = new ArrayList<>();
    private List<Integer> houses = new ArrayList<>();
    private final int[] laws = {0, 0};
    private final int[][] stands = new int[6][2];
    private final List<Told> letters = new ArrayList<>();
    private final Object[] sheets = new Object[4];
    private int finding = 0;

    // ---- the road

    int type(int b) {
        if (b < 0 || b > 255) {
            return BAD;
        }
        if (text.length() == 80) {
            return FULL;
        }
        text += (char) b;
        readRoad();
        return text.length();
    }

    int wipe() {
        int had = text.length();
        text = "";
        readRoad();
        return had;
    }

    /** Goes byte by byte; 'want' is what the rest of the part must look like. */
    private void readRoad() {
        length = 1;
        men = new ArrayList<>();
        houses = new ArrayList<>();
        fault = lookForFault();
        if (fault != NONE) {
            length = 1;
            men.clear();
            houses.clear();
        }
    }

    private int lookForFault() {
        String want = "Ll";
        String part = "";
        for (int i = 0; i < text.length(); i++) {
            char c = text.charAt(i);
            if (want.isEmpty()) {
                if (c != ';') {
                    return i;
                }
                want = "?";
                part = "";
                continue;
            }
            if (want.equals("?")) {
                want = c == 'h' ? "hPp" : "MmxTt";
                if (c == 'h' && houses.size() == 6 || c != 'h' && men.size() == 6) {
                    return i;
                }
            }
            char w = want.charAt(0);
            boolean fits = w == 'h' ? c == 'h' : w == 'x' ? c == 'u' || c == 'd' : "0123456789".indexOf(c) >= 0;
            if (!fits) {
                return i;
            }
            want = want.substring(1);
            part += c;
            if (Character.isLowerCase(w) && w != 'h' && w != 'x') {
                int number = Integer.parseInt(text.substring(i - 1, i + 1));
                if (!take(w, number, part)) {
                    return i - 1;
                }
            }
        }
        return want.isEmpty() ? NONE : text.length();
    }

    private boolean take(char which, int number, String part) {
        switch (which) {
            case 'l':
                length = number;
                return number >= 1 && number <= 40;
            case 'p':
                houses.add(number);
                return number <= length;
            case 'm':
                return number <= length && men.stream().noneMatch(m -> m.pace() == number);
            default:
                men.add(new Begin(Integer.parseInt(part.substring(0, 2)), part.charAt(2) == 'u' ? 1 : -1, number));
                return number <= 40;
        }
    }

    int fault() {
        return fault;
    }

    int begins(int man, int what) {
        if (man < 0 || man >= men.size() || what < 0 || what > 2) {
            return BAD;
        }
        Begin b = men.get(man);
        return new int[] {b.pace(), b.facing(), b.minute()}[what];
    }

    int house(int house) {
        return house < 0 || house >= houses.size() ? BAD : houses.get(house);
    }

    int law(int which, int v) {
        if (which < 0 || which > 1 || v < 0 || v > 2 - which) {
            return BAD;
        }
        int was = laws[which];
        laws[which] = v;
        return was;
    }

    int stand(int man, int minute, int many) {
        if (man < 0 || man > 5 || minute < 0 || minute > 99 || many < 0 || many > 99) {
            return BAD;
        }
        int was = stands[man][0] * 100 + stands[man][1];
        stands[man] = new int[] {minute, many};
        return was;
    }

    // ---- walking

    private List<Moment> walk(int who, int last) {
        Moment now = new Moment();
        for (int i = 0; i < men.size(); i++) {
            if ((who & 1 << i) != 0) {
                now.place.put(i, 2 * men.get(i).pace());
                now.facing.put(i, men.get(i).facing());
                now.load.put(i, i);
            }
        }
        List<Moment> all = new ArrayList<>();
        all.add(now);
        for (int t = 0; t < last; t++) {
            now = next(now, t);
            all.add(now);
        }
        return all;
    }

    private List<Moment> walkAll() {
        return walk(63, 400);
    }

    private Moment next(Moment old, int t) {
        Moment now = new Moment();
        now.load.putAll(old.load);
        for (int i : old.place.keySet()) {
            int place = old.place.get(i);
            int facing = old.facing.get(i);
            boolean waits = t < 2 * men.get(i).minute();
            boolean rests = t >= 2 * stands[i][0] && t < 2 * (stands[i][0] + stands[i][1]);
            if (!waits && !rests) {
                if (place + facing < 0 || place + facing > 2 * length) {
                    facing = -facing;
                }
                place += facing;
            }
            now.place.put(i, place);
            now.facing.put(i, facing);
        }
        for (int place = 0; place <= 2 * length; place++) {
            List<Integer> group = new ArrayList<>();
            for (int i : now.place.keySet()) {
                if (now.place.get(i) == place) {
                    group.add(i);
                }
            }
            meet(old, now, group);
        }
        return now;
    }

    private void meet(Moment old, Moment now, List<Integer> group) {
        boolean fresh = false;
        for (int a : group) {
            for (int b : group) {
                fresh |= !old.place.get(a).equals(old.place.get(b));
            }
        }
        if (!fresh) {
            return;
        }
        for (int a : group) {
            for (int b : group) {
                if (a < b) {
                    now.pairs.add(a + "," + b);
                }
            }
        }
        int n = group.size();
        boolean changes = n == 2 && (laws[0] == 0 || laws[0] == 2) || n > 2 && laws[1] == 1;
        boolean turns = n == 2 && (laws[0] == 0 || laws[0] == 1) || n > 2 && laws[1] == 1;
        for (int k = 0; k < n; k++) {
            if (changes) {
                now.load.put(group.get((k + 1) % n), old.load.get(group.get(k)));
            }
            if (turns) {
                now.facing.put(group.get(k), -now.facing.get(group.get(k)));
            }
        }
    }

    // ---- where they are

    private boolean noMan(int man) {
        return man < 0 || man >= men.size();
    }

    private static boolean noTime(int time) {
        return time < 0 || time > 400;
    }

    int man(int man, int time, int what) {
        if (noMan(man) || noTime(time) || what < 0 || what > 2) {
            return BAD;
        }
        Moment m = walk(63, time).get(time);
        return (what == 0 ? m.place : what == 1 ? m.facing : m.load).get(man);
    }

    int bag(int bag, int time, int what) {
        if (noMan(bag) || noTime(time) || what < 0 || what > 1) {
            return BAD;
        }
        Moment m = walk(63, time).get(time);
        return what == 0 ? m.place.get(m.holder(bag)) : m.holder(bag);
    }

    int met(int a, int b, int time) {
        if (noMan(a) || noMan(b) || a == b || noTime(time)) {
            return BAD;
        }
        String pair = Math.min(a, b) + "," + Math.max(a, b);
        return (int) walk(63, time).stream().filter(m -> m.pairs.contains(pair)).count();
    }

    int meetings(int time) {
        return noTime(time) ? BAD : walk(63, time).stream().mapToInt(m -> m.pairs.size()).sum();
    }

    int carried(int man, int bag, int time) {
        if (noMan(man) || noMan(bag) || noTime(time)) {
            return BAD;
        }
        return (int) walk(63, time).subList(0, time).stream().filter(m -> m.load.get(man) == bag).count();
    }

    int namesOff(int bag, int time) {
        return noMan(bag) || noTime(time) ? BAD : walk(1 << bag, time).get(time).place.get(bag);
    }

    int isTrue(int time) {
        if (noTime(time)) {
            return BAD;
        }
        List<Moment> all = walk(63, time);
        for (int bag = 0; bag < men.size(); bag++) {
            List<Moment> off = walk(1 << bag, time);
            for (int t = 0; t <= time; t++) {
                Moment m = all.get(t);
                if (!m.place.get(m.holder(bag)).equals(off.get(t).place.get(bag))) {
                    return 0;
                }
            }
        }
        return 1;
    }

    int again() {
        List<Moment> all = walkAll();
        Moment first = all.get(0);
        for (int t = 1; t <= 400; t++) {
            Moment m = all.get(t);
            if (m.place.equals(first.place) && m.facing.equals(first.facing) && m.load.equals(first.load)) {
                return t;
            }
        }
        return NONE;
    }

    // ---- letters, houses

    /** The bag and when it comes. */
    private int[] send(List<Moment> all, int from, int minute, int to) {
        for (int t = 2 * minute; t <= 400; t++) {
            Moment m = all.get(t);
            for (int man : m.place.keySet()) {
                if (m.place.get(man) == 2 * from) {
                    int bag = m.load.get(man);
                    for (int u = t; u <= 400; u++) {
                        Moment n = all.get(u);
                        if (n.place.get(n.holder(bag)) == 2 * to) {
                            return new int[] {bag, u};
                        }
                    }
                    return new int[] {bag, NONE};
                }
            }
        }
        return new int[] {NONE, NONE};
    }

    int letter(int from, int minute, int to, int what) {
        if (from < 0 || from > length || minute < 0 || minute > 199 || to < 0 || to > length
                || what < 0 || what > 1) {
            return BAD;
        }
        return send(walkAll(), from, minute, to)[what];
    }

    int giveIn(int to, int time, int what) {
        if (to < 0 || to > length || noTime(time) || what < 0 || what > 1) {
            return BAD;
        }
        List<Moment> all = walkAll();
        for (int minute = 199; minute >= 0; minute--) {
            for (int h = 0; h < houses.size(); h++) {
                int comes = send(all, houses.get(h), minute, to)[1];
                if (comes != NONE && comes <= time) {
                    return what == 0 ? h : minute;
                }
            }
        }
        return NONE;
    }

    private boolean serves(int who, int n, int g) {
        List<Moment> all = walk(who, 2 * n);
        for (int house : houses) {
            for (int row = 0; row + 2 * g <= 2 * n; row += 2 * g) {
                boolean there = false;
                for (int t = row; t < row + 2 * g; t++) {
                    there |= all.get(t).place.containsValue(2 * house);
                }
                if (!there) {
                    return false;
                }
            }
        }
        return true;
    }

    private static boolean noSpan(int n, int g) {
        return n < 1 || n > 200 || g < 1 || g > 99;
    }

    int served(int n, int g) {
        return noSpan(n, g) ? BAD : serves(63, n, g) ? 1 : 0;
    }

    int fewest(int n, int g) {
        if (noSpan(n, g)) {
            return BAD;
        }
        int best = NONE;
        for (int who = 0; who < 1 << men.size(); who++) {
            if ((best == NONE || Integer.bitCount(who) < Integer.bitCount(best)) && serves(who, n, g)) {
                best = who;
            }
        }
        return best;
    }

    // ---- who was late

    private static boolean noLetter(int from, int minute, int to, int time) {
        return from < 0 || from > 40 || minute < 0 || minute > 199 || to < 0 || to > 40 || time < -1 || time > 400;
    }

    int came(int from, int minute, int to, int time) {
        if (noLetter(from, minute, to, time)) {
            return BAD;
        }
        if (letters.size() == 12) {
            return FULL;
        }
        letters.add(new Told(from, minute, to, time));
        return letters.size();
    }

    int read(int s) {
        if (noSheet(s)) {
            return BAD;
        }
        if (sheets[s] == null) {
            return find(1);
        }
        int taken = 0;
        for (int i = 0; i + 4 <= size(s); i += 4) {
            if (came(item(s, i), item(s, i + 1), item(s, i + 2), item(s, i + 3)) < 0) {
                break;
            }
            taken++;
        }
        return taken;
    }

    int forget() {
        int had = letters.size();
        letters.clear();
        return had;
    }

    int late() {
        List<Moment> all = walkAll();
        return (int) letters.stream().filter(l -> send(all, l.from(), l.minute(), l.to())[1] != l.time()).count();
    }

    int stood(int what) {
        if (what < 0 || what > 1) {
            return BAD;
        }
        int many = 0;
        for (int man = 0; man < men.size(); man++) {
            int[] was = stands[man];
            for (int minute = 0; minute <= 30; minute++) {
                for (int length = 1; length <= 10; length++) {
                    stands[man] = new int[] {minute, length};
                    boolean fits = late() == 0;
                    stands[man] = was;
                    if (fits && what == 1) {
                        return 10000 * man + 100 * minute + length;
                    }
                    many += fits ? 1 : 0;
                }
            }
        }
        return what == 1 ? NONE : many;
    }

    // ---- sheets

    private static boolean noSheet(int s) {
        return s < 0 || s > 3;
    }

    private static boolean noForm(int form) {
        return form < 0 || form > 2;
    }

    private int find(int number) {
        finding = number;
        return -10 - number;
    }

    private int size(int s) {
        return java.lang.reflect.Array.getLength(sheets[s]);
    }

    private int item(int s, int i) {
        return java.lang.reflect.Array.getInt(sheets[s], i);
    }

    private void put(int s, int i, int v) {
        if (sheets[s] instanceof byte[] b) {
            b[i] = (byte) v;
        } else if (sheets[s] instanceof short[] h) {
            h[i] = (short) v;
        } else if (sheets[s] instanceof int[] n) {
            n[i] = v;
        }
    }

    private int formOf(int s) {
        return sheets[s] instanceof byte[] ? 0 : sheets[s] instanceof short[] ? 1 : 2;
    }

    int sheet(int s, int form, int n) {
        if (noSheet(s) || noForm(form) || n > 60) {
            return BAD;
        }
        if (n < 0) {
            return find(5);
        }
        sheets[s] = form == 0 ? new byte[n] : form == 1 ? new short[n] : new int[n];
        return n;
    }

    int lose(int s) {
        if (noSheet(s)) {
            return BAD;
        }
        if (sheets[s] == null) {
            return find(1);
        }
        int had = size(s);
        sheets[s] = null;
        return had;
    }

    private int wrong(int s, int form, int i) {
        return noSheet(s) || noForm(form) ? BAD : sheets[s] == null ? find(1)
                : formOf(s) != form ? find(3) : i < 0 || i >= size(s) ? find(2) : 0;
    }

    int lay(int s, int form, int i, int v) {
        int wrong = wrong(s, form, i);
        if (wrong != 0) {
            return wrong;
        }
        put(s, i, v);
        return 1;
    }

    int get(int s, int form, int i) {
        return wrong(s, form, i) != 0 ? Integer.MIN_VALUE : item(s, i);
    }

    int copy(int s, int i, int t, int j, int n) {
        if (noSheet(s) || noSheet(t)) {
            return BAD;
        }
        if (sheets[s] == null || sheets[t] == null) {
            return find(1);
        }
        if (formOf(s) != formOf(t)) {
            return find(4);
        }
        if (i < 0 || j < 0 || n < 0 || (long) i + n > size(s) || (long) j + n > size(t)) {
            return find(2);
        }
        int[] kept = new int[n];
        for (int k = 0; k < n; k++) {
            kept[k] = item(s, i + k);
        }
        for (int k = 0; k < n; k++) {
            put(t, j + k, kept[k]);
        }
        return 1;
    }

    int write(int bag, int time, int s) {
        if (noMan(bag) || noTime(time) || noSheet(s)) {
            return BAD;
        }
        if (sheets[s] == null) {
            return find(1);
        }
        List<Moment> all = walkAll();
        int many = 0;
        for (int t = time; t <= 400 && many < size(s); t++) {
            put(s, many, all.get(t).place.get(all.get(t).holder(bag)));
            many++;
        }
        return many;
    }

    int count(int what) {
        int standing = 0;
        for (int i = 0; i < men.size(); i++) {
            standing += stands[i][1];
        }
        int[] counts = {length, men.size(), houses.size(), text.length(), letters.size(), laws[0], laws[1], standing,
            finding};
        return what < 0 || what > 8 ? BAD : counts[what];
    }

    long digest() {
        List<Integer> all = new ArrayList<>();
        for (int what = 0; what < 8; what++) {
            all.add(count(what));
        }
        all.add(fault());
        for (int m = 0; m < men.size(); m++) {
            all.addAll(List.of(begins(m, 0), begins(m, 1), begins(m, 2)));
            all.addAll(List.of(man(m, 50, 0), man(m, 50, 1), man(m, 50, 2)));
            all.addAll(List.of(man(m, 400, 0), man(m, 400, 1), man(m, 400, 2)));
            all.add(namesOff(m, 77));
            if (men.size() > 1) {
                all.add(met(m, (m + 1) % men.size(), 400));
            }
            all.add(carried(m, m, 400));
        }
        for (int house : houses) {
            all.addAll(List.of(house, letter(0, 9, house, 0), letter(0, 9, house, 1)));
        }
        all.addAll(List.of(meetings(400), isTrue(400), again(), giveIn(0, 200, 0), giveIn(0, 200, 1)));
        all.addAll(List.of(served(60, 20), fewest(60, 20), late()));
        long h = 17;
        for (int v : all) {
            h = h * 31 + v;
        }
        return h;
    }
}
