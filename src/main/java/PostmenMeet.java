import java.util.Arrays;

/** Postmen who change bags when they meet, as the document's numbered promises tell. */
public final class PostmenMeet {
    public static final int NONE = -1, BAD = -2, NOT = -3, FULL = -4;

    private static final int MOST_BYTES = 80;
    private static final int MOST_PACES = 40;
    private static final int MOST_SET_OUT = 40;
    private static final int MOST_MEN = 6;
    private static final int MOST_HOUSES = 6;
    private static final int MOST_STAND = 99;
    private static final int LAST_TIME = 400;
    private static final int LAST_MINUTE = 199;
    private static final int MOST_SERVED = 200;
    private static final int MOST_GAP = 99;
    private static final int MOST_LETTERS = 12;
    private static final int LAST_STOOD = 30;
    private static final int LONGEST_STOOD = 10;
    private static final int SHEETS = 4;
    private static final int FORMS = 3;
    private static final int MOST_ITEMS = 60;

    private static final int NULL = 1, INDEX = 2, CAST = 3, STORE = 4, SIZE = 5;

    private final Road road;
    private final Use use;
    private final Walk walk;
    private final Course course;
    private final Letters letters;
    private final Sheets sheets;
    private boolean stale;
    private int finding;

    public PostmenMeet() {
        road = new Road();
        use = new Use();
        walk = new Walk();
        course = new Course();
        letters = new Letters();
        sheets = new Sheets();
        stale = true;
        finding = 0;
    }

    // ---- the road

    public int type(int b) {
        if (b < 0 || b > 255) {
            return BAD;
        }
        if (road.bytes >= MOST_BYTES) {
            return FULL;
        }
        road.append(b);
        road.parse();
        stale = true;
        return road.bytes;
    }

    public int wipe() {
        int had = road.bytes;
        road.bytes = 0;
        road.parse();
        stale = true;
        return had;
    }

    public int fault() {
        return road.fault;
    }

    public int begins(int man, int what) {
        if (!isMan(man)) {
            return BAD;
        }
        switch (what) {
            case 0:
                return road.pace[man];
            case 1:
                return road.facing[man];
            case 2:
                return road.setOut[man];
            default:
                return BAD;
        }
    }

    public int house(int house) {
        if (house < 0 || house >= road.houses) {
            return BAD;
        }
        return road.housePace[house];
    }

    public int law(int which, int v) {
        if (which == 0 && v >= 0 && v <= 2) {
            int was = use.lawOfTwo;
            use.lawOfTwo = v;
            stale = true;
            return was;
        }
        if (which == 1 && v >= 0 && v <= 1) {
            int was = use.lawOfMore;
            use.lawOfMore = v;
            stale = true;
            return was;
        }
        return BAD;
    }

    public int stand(int man, int minute, int many) {
        if (man < 0 || man >= MOST_MEN || minute < 0 || minute > MOST_STAND
                || many < 0 || many > MOST_STAND) {
            return BAD;
        }
        int was = 100 * use.standMinute[man] + use.standMany[man];
        use.standMinute[man] = minute;
        use.standMany[man] = many;
        stale = true;
        return was;
    }

    // ---- where they are

    public int man(int man, int time, int what) {
        if (!isMan(man) || !isTime(time) || what < 0 || what > 2) {
            return BAD;
        }
        refresh();
        if (what == 0) {
            return course.place[man][time];
        }
        return what == 1 ? course.facing[man][time] : course.load[man][time];
    }

    public int bag(int bag, int time, int what) {
        if (!isMan(bag) || !isTime(time) || what < 0 || what > 1) {
            return BAD;
        }
        refresh();
        return what == 0 ? course.bagPlace(bag, time) : course.holder(bag, time);
    }

    public int met(int a, int b, int time) {
        if (!isMan(a) || !isMan(b) || a == b || !isTime(time)) {
            return BAD;
        }
        refresh();
        int many = 0;
        for (int t = 0; t <= time; t++) {
            many += (int) (course.pairs[t] >> pairShift(a, b) & 1);
        }
        return many;
    }

    public int meetings(int time) {
        if (!isTime(time)) {
            return BAD;
        }
        refresh();
        int many = 0;
        for (int t = 0; t <= time; t++) {
            many += Long.bitCount(course.pairs[t]) / 2;
        }
        return many;
    }

    public int carried(int man, int bag, int time) {
        if (!isMan(man) || !isMan(bag) || !isTime(time)) {
            return BAD;
        }
        refresh();
        int many = 0;
        for (int t = 0; t < time; t++) {
            if (course.load[man][t] == bag) {
                many++;
            }
        }
        return many;
    }

    public int namesOff(int bag, int time) {
        if (!isMan(bag) || !isTime(time)) {
            return BAD;
        }
        refresh();
        return course.alone[bag][time];
    }

    public int isTrue(int time) {
        if (!isTime(time)) {
            return BAD;
        }
        refresh();
        for (int t = 0; t <= time; t++) {
            if (!course.asNamesOff(t)) {
                return 0;
            }
        }
        return 1;
    }

    public int again() {
        refresh();
        for (int t = 1; t <= LAST_TIME; t++) {
            if (course.asAtFirst(t)) {
                return t;
            }
        }
        return NONE;
    }

    // ---- letters, houses

    public int letter(int from, int minute, int to, int what) {
        if (!isPace(from) || minute < 0 || minute > LAST_MINUTE || !isPace(to)
                || what < 0 || what > 1) {
            return BAD;
        }
        refresh();
        int taken = course.taken(from, minute);
        if (taken == NONE) {
            return NONE;
        }
        int bag = course.bagThere(from, taken);
        return what == 0 ? bag : course.bagComes(bag, taken, to);
    }

    public int giveIn(int to, int time, int what) {
        if (!isPace(to) || !isTime(time) || what < 0 || what > 1) {
            return BAD;
        }
        refresh();
        int bestHouse = NONE;
        int bestMinute = NONE;
        for (int h = 0; h < road.houses; h++) {
            int minute = course.latestMinute(road.housePace[h], to, time);
            if (minute > bestMinute) {
                bestMinute = minute;
                bestHouse = h;
            }
        }
        return what == 0 ? bestHouse : bestMinute;
    }

    public int served(int n, int g) {
        if (!isSpan(n, g)) {
            return BAD;
        }
        return serve(allMen(), n, g) ? 1 : 0;
    }

    public int fewest(int n, int g) {
        if (!isSpan(n, g)) {
            return BAD;
        }
        int all = allMen();
        for (int size = 0; size <= road.men; size++) {
            for (int who = 0; who <= all; who++) {
                if (Integer.bitCount(who) == size && serve(who, n, g)) {
                    return who;
                }
            }
        }
        return NONE;
    }

    // ---- who was late

    public int came(int from, int minute, int to, int time) {
        if (!letters.mayBe(from, minute, to, time)) {
            return BAD;
        }
        if (letters.size >= MOST_LETTERS) {
            return FULL;
        }
        letters.add(from, minute, to, time);
        return letters.size;
    }

    public int read(int s) {
        if (!isSheet(s)) {
            return BAD;
        }
        if (sheets.isLost(s)) {
            return find(NULL);
        }
        int[] items = sheets.items[s];
        int many = 0;
        for (int i = 0; i + 3 < sheets.size[s]; i += 4) {
            if (letters.size >= MOST_LETTERS
                    || !letters.mayBe(items[i], items[i + 1], items[i + 2], items[i + 3])) {
                break;
            }
            letters.add(items[i], items[i + 1], items[i + 2], items[i + 3]);
            many++;
        }
        return many;
    }

    public int forget() {
        int had = letters.size;
        letters.size = 0;
        return had;
    }

    public int late() {
        refresh();
        int many = 0;
        for (int l = 0; l < letters.size; l++) {
            int comes = course.comes(letters.from[l], letters.minute[l], letters.to[l]);
            if (comes != letters.told[l]) {
                many++;
            }
        }
        return many;
    }

    public int stood(int what) {
        if (what < 0 || what > 1) {
            return BAD;
        }
        int many = 0;
        for (int man = 0; man < road.men; man++) {
            int found = stoodBy(man, what == 1);
            if (what == 1 && found != NONE) {
                return 10000 * man + found;
            }
            many += found;
        }
        return what == 1 ? NONE : many;
    }

    // ---- sheets

    public int sheet(int s, int form, int n) {
        if (!isSheet(s) || !isForm(form) || n > MOST_ITEMS) {
            return BAD;
        }
        if (n < 0) {
            return find(SIZE);
        }
        sheets.renew(s, form, n);
        return n;
    }

    public int lose(int s) {
        if (!isSheet(s)) {
            return BAD;
        }
        if (sheets.isLost(s)) {
            return find(NULL);
        }
        int had = sheets.size[s];
        sheets.drop(s);
        return had;
    }

    public int lay(int s, int form, int i, int v) {
        if (!isSheet(s) || !isForm(form)) {
            return BAD;
        }
        int wrong = sheets.wrongItem(s, form, i);
        if (wrong != 0) {
            return find(wrong);
        }
        sheets.put(s, i, v);
        return 1;
    }

    public int get(int s, int form, int i) {
        if (!isSheet(s) || !isForm(form)) {
            return Integer.MIN_VALUE;
        }
        int wrong = sheets.wrongItem(s, form, i);
        if (wrong != 0) {
            find(wrong);
            return Integer.MIN_VALUE;
        }
        return sheets.items[s][i];
    }

    public int copy(int s, int i, int t, int j, int n) {
        if (!isSheet(s) || !isSheet(t)) {
            return BAD;
        }
        if (sheets.isLost(s) || sheets.isLost(t)) {
            return find(NULL);
        }
        if (sheets.form[s] != sheets.form[t]) {
            return find(STORE);
        }
        if (!sheets.hasRun(s, i, n) || !sheets.hasRun(t, j, n)) {
            return find(INDEX);
        }
        System.arraycopy(sheets.items[s], i, sheets.items[t], j, n);
        return 1;
    }

    public int write(int bag, int time, int s) {
        if (!isMan(bag) || !isTime(time) || !isSheet(s)) {
            return BAD;
        }
        if (sheets.isLost(s)) {
            return find(NULL);
        }
        refresh();
        int many = Math.min(sheets.size[s], LAST_TIME - time + 1);
        for (int i = 0; i < many; i++) {
            sheets.put(s, i, course.bagPlace(bag, time + i));
        }
        return many;
    }

    public int count(int what) {
        switch (what) {
            case 0:
                return road.length;
            case 1:
                return road.men;
            case 2:
                return road.houses;
            case 3:
                return road.bytes;
            case 4:
                return letters.size;
            case 5:
                return use.lawOfTwo;
            case 6:
                return use.lawOfMore;
            case 7:
                return use.minutesStood(road.men);
            case 8:
                return finding;
            default:
                return BAD;
        }
    }

    public long digest() {
        long h = 17;
        for (int what = 0; what <= 7; what++) {
            h = 31 * h + count(what);
        }
        h = 31 * h + fault();
        for (int man = 0; man < road.men; man++) {
            for (int what = 0; what <= 2; what++) {
                h = 31 * h + begins(man, what);
            }
            for (int what = 0; what <= 2; what++) {
                h = 31 * h + man(man, 50, what);
            }
            for (int what = 0; what <= 2; what++) {
                h = 31 * h + man(man, 400, what);
            }
            h = 31 * h + namesOff(man, 77);
            if (road.men >= 2) {
                h = 31 * h + met(man, man + 1 < road.men ? man + 1 : 0, 400);
            }
            h = 31 * h + carried(man, man, 400);
        }
        for (int house = 0; house < road.houses; house++) {
            h = 31 * h + house(house);
            h = 31 * h + letter(0, 9, house(house), 0);
            h = 31 * h + letter(0, 9, house(house), 1);
        }
        h = 31 * h + meetings(400);
        h = 31 * h + isTrue(400);
        h = 31 * h + again();
        h = 31 * h + giveIn(0, 200, 0);
        h = 31 * h + giveIn(0, 200, 1);
        h = 31 * h + served(60, 20);
        h = 31 * h + fewest(60, 20);
        h = 31 * h + late();
        return h;
    }

    // ---- what the calls share

    private boolean isMan(int man) {
        return man >= 0 && man < road.men;
    }

    private boolean isPace(int pace) {
        return pace >= 0 && pace <= road.length;
    }

    private static boolean isTime(int time) {
        return time >= 0 && time <= LAST_TIME;
    }

    private static boolean isSpan(int n, int g) {
        return n >= 1 && n <= MOST_SERVED && g >= 1 && g <= MOST_GAP;
    }

    private static boolean isSheet(int s) {
        return s >= 0 && s < SHEETS;
    }

    private static boolean isForm(int form) {
        return form >= 0 && form < FORMS;
    }

    private int allMen() {
        return (1 << road.men) - 1;
    }

    private int find(int number) {
        finding = number;
        return -10 - number;
    }

    /** The course is walked only when it is asked for: a road is typed byte by byte. */
    private void refresh() {
        if (stale) {
            course.men = road.men;
            walk.start(road, use, allMen());
            course.recordTogether(walk);
            walk.start(road, use, allMen());
            course.recordAlone(walk);
            stale = false;
        }
    }

    private boolean serve(int who, int n, int g) {
        if (g < 1) {
            return false;
        }
        int all = (1 << road.houses) - 1;
        int row = 2 * g;
        int end = n / g * row;
        int seen = 0;
        walk.start(road, use, who);
        for (int t = 0; t < end; t++) {
            if (t > 0) {
                walk.step();
            }
            seen |= housesVisited();
            if ((t + 1) % row == 0) {
                if (seen != all) {
                    return false;
                }
                seen = 0;
            }
        }
        return true;
    }

    private int housesVisited() {
        int visited = 0;
        for (int h = 0; h < road.houses; h++) {
            if (walk.firstThere(2 * road.housePace[h]) != NONE) {
                visited |= 1 << h;
            }
        }
        return visited;
    }

    /** How many whiles of one man let all letters come as told, or the first of them (NONE). */
    private int stoodBy(int man, boolean first) {
        int many = 0;
        boolean fits = false;
        boolean settled = false;
        for (int minute = 0; minute <= LAST_STOOD; minute++) {
            boolean same = settled;
            for (int length = 1; length <= LONGEST_STOOD; length++) {
                if (!same) {
                    walk.start(road, use, allMen());
                    walk.standInstead(man, minute, length);
                    fits = letters.comeAsTold(walk);
                    // Whiles that differ only behind what decided it are decided alike.
                    settled = letters.decided <= 2 * minute;
                    same = letters.decided <= 2 * (minute + length);
                }
                if (fits && first) {
                    return 100 * minute + length;
                }
                many += fits ? 1 : 0;
            }
        }
        return first ? NONE : many;
    }

    /** Where the bit of two men stands in the pairs of a half minute; two have one each way. */
    private static int pairShift(int a, int b) {
        return MOST_MEN * a + b;
    }

    /** The text and what it tells; with a fault it tells an empty road. */
    private static final class Road {
        private final int[] text = new int[MOST_BYTES];
        private final int[] pace = new int[MOST_MEN];
        private final int[] facing = new int[MOST_MEN];
        private final int[] setOut = new int[MOST_MEN];
        private final int[] housePace = new int[MOST_HOUSES];
        private int bytes = 0;
        private int fault = 0;
        private int length = 1;
        private int men = 0;
        private int houses = 0;

        private void append(int b) {
            if (bytes < MOST_BYTES) {
                text[bytes] = b;
                bytes++;
            }
        }

        private void parse() {
            men = 0;
            houses = 0;
            fault = firstFault();
            if (fault != NONE) {
                length = 1;
                men = 0;
                houses = 0;
            }
        }

        private int firstFault() {
            int wrong = wrongNumber(0, 1, MOST_PACES);
            if (wrong != NONE) {
                return wrong;
            }
            length = number(0);
            int at = 2;
            for (int part = 0; part < MOST_BYTES && at < bytes; part++) {
                if (!isByte(at, ';')) {
                    return at;
                }
                boolean isHouse = isByte(at + 1, 'h');
                wrong = isHouse ? takeHouse(at + 1) : takeMan(at + 1);
                if (wrong != NONE) {
                    return wrong;
                }
                at += isHouse ? 4 : 6;
            }
            return NONE;
        }

        private int takeHouse(int at) {
            if (houses >= MOST_HOUSES) {
                return at;
            }
            int wrong = wrongNumber(at + 1, 0, length);
            if (wrong != NONE) {
                return wrong;
            }
            housePace[houses] = number(at + 1);
            houses++;
            return NONE;
        }

        private int takeMan(int at) {
            if (men >= MOST_MEN) {
                return at;
            }
            int wrong = wrongNumber(at, 0, length);
            if (wrong != NONE) {
                return wrong;
            }
            if (isTaken(number(at))) {
                return at;
            }
            if (!isByte(at + 2, 'u') && !isByte(at + 2, 'd')) {
                return at + 2;
            }
            wrong = wrongNumber(at + 3, 0, MOST_SET_OUT);
            if (wrong != NONE) {
                return wrong;
            }
            pace[men] = number(at);
            facing[men] = isByte(at + 2, 'u') ? 1 : -1;
            setOut[men] = number(at + 3);
            men++;
            return NONE;
        }

        private boolean isTaken(int where) {
            for (int i = 0; i < men; i++) {
                if (pace[i] == where) {
                    return true;
                }
            }
            return false;
        }

        private boolean isByte(int at, int b) {
            return at >= 0 && at < bytes && text[at] == b;
        }

        private boolean isFigure(int at) {
            return at >= 0 && at < bytes && text[at] >= '0' && text[at] <= '9';
        }

        private int wrongNumber(int at, int least, int most) {
            if (!isFigure(at)) {
                return at;
            }
            if (!isFigure(at + 1)) {
                return at + 1;
            }
            int value = number(at);
            return value < least || value > most ? at : NONE;
        }

        private int number(int at) {
            if (!isFigure(at) || !isFigure(at + 1)) {
                return 0;
            }
            return 10 * (text[at] - '0') + text[at + 1] - '0';
        }
    }

    /** The laws, and for how long each man was told to stand. */
    private static final class Use {
        private final int[] standMinute = new int[MOST_MEN];
        private final int[] standMany = new int[MOST_MEN];
        private int lawOfTwo = 0;
        private int lawOfMore = 0;

        private int minutesStood(int men) {
            int sum = 0;
            for (int i = 0; i < men && i < MOST_MEN; i++) {
                sum += standMany[i];
            }
            return sum;
        }
    }

    /** The men at one half minute, going on from each to the next. */
    private static final class Walk {
        private final int[] place = new int[MOST_MEN];
        private final int[] before = new int[MOST_MEN];
        private final int[] facing = new int[MOST_MEN];
        private final int[] load = new int[MOST_MEN];
        private final int[] setOut = new int[MOST_MEN];
        private final int[] standFrom = new int[MOST_MEN];
        private final int[] standTill = new int[MOST_MEN];
        private int men = 0;
        private int there = 0;
        private int end = 2;
        private int lawOfTwo = 0;
        private int lawOfMore = 0;
        private int time = 0;
        private long pairs = 0;

        /** Nobody meets at 0: no two men begin on one pace. */
        private void start(Road road, Use use, int who) {
            men = road.men;
            there = who;
            end = 2 * road.length;
            lawOfTwo = use.lawOfTwo;
            lawOfMore = use.lawOfMore;
            time = 0;
            pairs = 0;
            for (int i = 0; i < men; i++) {
                place[i] = 2 * road.pace[i];
                facing[i] = road.facing[i];
                load[i] = i;
                setOut[i] = 2 * road.setOut[i];
                standInstead(i, use.standMinute[i], use.standMany[i]);
            }
        }

        private void standInstead(int man, int minute, int many) {
            standFrom[man] = 2 * minute;
            standTill[man] = 2 * (minute + many);
        }

        /** Those of a place meet, if one of them was not where its first was half a minute ago. */
        private void step() {
            goOn();
            pairs = 0;
            int left = there;
            for (int i = 0; i < men; i++) {
                if ((left >> i & 1) == 0) {
                    continue;
                }
                int group = 1 << i;
                boolean fresh = false;
                for (int j = i + 1; j < men; j++) {
                    if ((left >> j & 1) != 0 && place[j] == place[i]) {
                        group |= 1 << j;
                        fresh = fresh || before[j] != before[i];
                    }
                }
                left &= ~group;
                if (fresh) {
                    meet(group);
                }
            }
        }

        /** A man turns at an end only when he goes on: until then he faces it. */
        private void goOn() {
            for (int i = 0; i < men; i++) {
                before[i] = place[i];
                if ((there >> i & 1) != 0 && !isStanding(i)) {
                    if (place[i] >= end && facing[i] > 0 || place[i] <= 0 && facing[i] < 0) {
                        facing[i] = -facing[i];
                    }
                    place[i] += facing[i];
                }
            }
            time++;
        }

        private boolean isStanding(int man) {
            return time < setOut[man] || time >= standFrom[man] && time < standTill[man];
        }

        private void meet(int group) {
            boolean isTwo = Integer.bitCount(group) == 2;
            boolean turn = isTwo ? lawOfTwo != 2 : lawOfMore == 1;
            boolean change = isTwo ? lawOfTwo != 1 : lawOfMore == 1;
            if (change) {
                handRound(group);
            }
            for (int i = 0; i < men; i++) {
                if ((group >> i & 1) != 0) {
                    long others = group & ~(1 << i);
                    pairs |= others << pairShift(i, 0);
                    facing[i] = turn ? -facing[i] : facing[i];
                }
            }
        }

        /** Each takes the load of the one ahead of him; of two that is a change. */
        private void handRound(int group) {
            int first = NONE;
            int handed = NONE;
            for (int i = 0; i < men; i++) {
                if ((group >> i & 1) != 0) {
                    int own = load[i];
                    load[i] = handed;
                    handed = own;
                    first = first == NONE ? i : first;
                }
            }
            if (first != NONE) {
                load[first] = handed;
            }
        }

        private int firstThere(int where) {
            for (int i = 0; i < men; i++) {
                if ((there >> i & 1) != 0 && place[i] == where) {
                    return i;
                }
            }
            return NONE;
        }

        private boolean isBagAt(int bag, int where) {
            for (int i = 0; i < men; i++) {
                if ((there >> i & 1) != 0 && load[i] == bag) {
                    return place[i] == where;
                }
            }
            return false;
        }
    }

    /** What all men do at all times, as it is now. */
    private static final class Course {
        private final int[][] place = new int[MOST_MEN][LAST_TIME + 1];
        private final int[][] facing = new int[MOST_MEN][LAST_TIME + 1];
        private final int[][] load = new int[MOST_MEN][LAST_TIME + 1];
        private final int[][] alone = new int[MOST_MEN][LAST_TIME + 1];
        private final long[] pairs = new long[LAST_TIME + 1];
        private int men = 0;

        private void recordTogether(Walk walk) {
            for (int t = 0; t <= LAST_TIME; t++) {
                if (t > 0) {
                    walk.step();
                }
                for (int i = 0; i < men; i++) {
                    place[i][t] = walk.place[i];
                    facing[i][t] = walk.facing[i];
                    load[i][t] = walk.load[i];
                }
                pairs[t] = walk.pairs;
            }
        }

        private void recordAlone(Walk walk) {
            for (int t = 0; t <= LAST_TIME; t++) {
                if (t > 0) {
                    walk.goOn();
                }
                for (int i = 0; i < men; i++) {
                    alone[i][t] = walk.place[i];
                }
            }
        }

        private int holder(int bag, int time) {
            for (int i = 0; i < men; i++) {
                if (load[i][time] == bag) {
                    return i;
                }
            }
            return NONE;
        }

        private int bagPlace(int bag, int time) {
            int man = holder(bag, time);
            return man == NONE ? NONE : place[man][time];
        }

        private boolean asNamesOff(int time) {
            for (int bag = 0; bag < men; bag++) {
                if (bagPlace(bag, time) != alone[bag][time]) {
                    return false;
                }
            }
            return true;
        }

        private boolean asAtFirst(int time) {
            for (int i = 0; i < men; i++) {
                if (place[i][time] != place[i][0] || facing[i][time] != facing[i][0]
                        || load[i][time] != load[i][0]) {
                    return false;
                }
            }
            return true;
        }

        /** The bag of the first man who is on a pace; NONE. */
        private int bagThere(int pace, int time) {
            for (int i = 0; i < men; i++) {
                if (place[i][time] == 2 * pace) {
                    return load[i][time];
                }
            }
            return NONE;
        }

        private int bagsThere(int pace, int time) {
            int bags = 0;
            for (int i = 0; i < men; i++) {
                if (place[i][time] == 2 * pace) {
                    bags |= 1 << load[i][time];
                }
            }
            return bags;
        }

        /** When a letter is put into a bag; NONE. */
        private int taken(int from, int minute) {
            for (int t = 2 * minute; t <= LAST_TIME; t++) {
                if (bagThere(from, t) != NONE) {
                    return t;
                }
            }
            return NONE;
        }

        private int bagComes(int bag, int since, int to) {
            for (int t = since; t <= LAST_TIME; t++) {
                if (bagPlace(bag, t) == 2 * to) {
                    return t;
                }
            }
            return NONE;
        }

        private int comes(int from, int minute, int to) {
            int taken = taken(from, minute);
            return taken == NONE ? NONE : bagComes(bagThere(from, taken), taken, to);
        }

        /** Goes back in time, so that it knows which bags come in time and who takes the letter. */
        private int latestMinute(int from, int to, int time) {
            int inTime = 0;
            boolean comes = false;
            for (int t = time; t >= 0; t--) {
                inTime |= bagsThere(to, t);
                int bag = bagThere(from, t);
                if (bag != NONE) {
                    comes = (inTime >> bag & 1) != 0;
                }
                if (comes && t % 2 == 0 && t / 2 <= LAST_MINUTE) {
                    return t / 2;
                }
            }
            return NONE;
        }
    }

    /** The letters that are told, and whether they come so. */
    private static final class Letters {
        private static final int GONE = -2;
        private final int[] from = new int[MOST_LETTERS];
        private final int[] minute = new int[MOST_LETTERS];
        private final int[] to = new int[MOST_LETTERS];
        private final int[] told = new int[MOST_LETTERS];
        private final int[] inBag = new int[MOST_LETTERS];
        private int size = 0;
        private int decided = 0;

        /** Paces go up to the longest road's: the road may change behind the telling. */
        private boolean mayBe(int pace, int when, int goal, int time) {
            return pace >= 0 && pace <= MOST_PACES && when >= 0 && when <= LAST_MINUTE
                    && goal >= 0 && goal <= MOST_PACES && time >= NONE && time <= LAST_TIME;
        }

        private void add(int pace, int when, int goal, int time) {
            if (size < MOST_LETTERS) {
                from[size] = pace;
                minute[size] = when;
                to[size] = goal;
                told[size] = time;
                size++;
            }
        }

        /** Walks on only until it is decided. */
        private boolean comeAsTold(Walk walk) {
            Arrays.fill(inBag, NONE);
            int open = size;
            decided = 0;
            for (int t = 0; t <= LAST_TIME && open > 0; t++) {
                if (t > 0) {
                    walk.step();
                }
                decided = t;
                for (int l = 0; l < size; l++) {
                    if (inBag[l] != GONE) {
                        boolean now = comesNow(l, walk);
                        if (now != (told[l] == t)) {
                            return false;
                        }
                        open -= now ? 1 : 0;
                    }
                }
            }
            return true;
        }

        private boolean comesNow(int l, Walk walk) {
            if (inBag[l] == NONE && walk.time >= 2 * minute[l]) {
                int man = walk.firstThere(2 * from[l]);
                inBag[l] = man == NONE ? NONE : walk.load[man];
            }
            if (inBag[l] == NONE || !walk.isBagAt(inBag[l], 2 * to[l])) {
                return false;
            }
            inBag[l] = GONE;
            return true;
        }
    }

    /** The sheets; their rows are made once and used again. */
    private static final class Sheets {
        private static final int LOST = -1;
        private final int[][] items = new int[SHEETS][MOST_ITEMS];
        private final int[] form = new int[SHEETS];
        private final int[] size = {LOST, LOST, LOST, LOST};

        private boolean isLost(int s) {
            return size[s] == LOST;
        }

        private void renew(int s, int kind, int n) {
            Arrays.fill(items[s], 0);
            form[s] = kind;
            size[s] = n;
        }

        private void drop(int s) {
            size[s] = LOST;
        }

        /** The finding that stands against an item, 0 for none. */
        private int wrongItem(int s, int kind, int i) {
            if (isLost(s)) {
                return NULL;
            }
            if (form[s] != kind) {
                return CAST;
            }
            return i < 0 || i >= size[s] ? INDEX : 0;
        }

        private boolean hasRun(int s, int i, int n) {
            return i >= 0 && n >= 0 && i <= size[s] && n <= size[s] - i;
        }

        private void put(int s, int i, int v) {
            if (form[s] == 0) {
                items[s][i] = (byte) v;
            } else if (form[s] == 1) {
                items[s][i] = (short) v;
            } else {
                items[s][i] = v;
            }
        }
    }
}
