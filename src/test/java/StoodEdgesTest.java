/** Edges of promises 21 to 25: what a letter may be, twelve letters and one more, the whiles of who stood. */
public final class StoodEdgesTest {
    private static final int NONE = PostmenMeet.NONE, FULL = PostmenMeet.FULL;
    private static final Refusal BUSY = new Refusal(Refusal::busy);
    /** Letters just allowed, and just not so: from, minute, to, time. */
    private static final int[][] MAY_BE = {{0, 0, 0, 0}, {40, 0, 0, 0}, {0, 199, 0, 0}, {0, 0, 40, 0}, {0, 0, 0, 400},
        {0, 0, 0, -1}, {40, 199, 40, 400}};
    private static final int[][] MAY_NOT_BE = {{-1, 0, 0, 0}, {41, 0, 0, 0}, {0, -1, 0, 0}, {0, 200, 0, 0},
        {0, 0, -1, 0}, {0, 0, 41, 0}, {0, 0, 0, -2}, {0, 0, 0, 401}};

    public static void main(String[] args) throws ReflectiveOperationException {
        Check.each(StoodEdgesTest.class);
    }

    private static PostmenMeet told(int many) {
        PostmenMeet x = Refusal.busy();
        x.forget();
        for (int i = 1; i <= many; i++) {
            Check.due("letter " + i, x.came(0, 0, 0, i % 3), i);
        }
        return x;
    }

    // ---- promise 21

    static void promise21LettersJustAllowed() {
        for (int[] l : MAY_BE) {
            Check.due("came", new PostmenMeet().came(l[0], l[1], l[2], l[3]), 1);
            Check.due("came", Check.road("40").came(l[0], l[1], l[2], l[3]), 1);
        }
    }

    static void promise21NoOtherLetters() {
        for (int[] l : MAY_NOT_BE) {
            BUSY.bad("came " + l[0] + " " + l[1] + " " + l[2] + " " + l[3], x -> x.came(l[0], l[1], l[2], l[3]));
        }
        for (int far : new int[] {Integer.MIN_VALUE, Integer.MAX_VALUE}) {
            BUSY.bad("came, from far", x -> x.came(far, 0, 0, 0));
            BUSY.bad("came, at a far minute", x -> x.came(0, far, 0, 0));
            BUSY.bad("came, for far", x -> x.came(0, 0, far, 0));
            BUSY.bad("came, at a far time", x -> x.came(0, 0, 0, far));
        }
    }

    static void promise21TwelveAndNoMore() {
        PostmenMeet x = told(12);
        Check.due("the thirteenth", x.came(0, 0, 0, 0), FULL);
        Check.due("LETTERS", x.count(4), 12);
        new Refusal(() -> told(12)).full("the thirteenth", y -> y.came(0, 0, 0, 0));
    }

    static void promise21BadAheadOfFull() {
        Refusal full = new Refusal(() -> told(12));
        for (int[] l : MAY_NOT_BE) {
            full.bad("came when full " + l[0] + " " + l[1] + " " + l[2] + " " + l[3],
                    x -> x.came(l[0], l[1], l[2], l[3]));
        }
    }

    // ---- promise 22

    /** A SHEET of ints with these items. */
    private static PostmenMeet withItems(PostmenMeet x, int... items) {
        Check.due("sheet", x.sheet(2, 2, items.length), items.length);
        for (int i = 0; i < items.length; i++) {
            Check.due("lay", x.lay(2, 2, i, items[i]), 1);
        }
        return x;
    }

    private static void readIs(PostmenMeet x, int s, int want, int told) {
        Check.due("read(" + s + ")", x.read(s), want);
        Check.due("LETTERS", x.count(4), told);
    }

    static void promise22AsManyAsAreWhole() {
        int[][] itemsAndLetters = {{0, 0}, {1, 0}, {3, 0}, {4, 1}, {5, 1}, {7, 1}, {8, 2}, {47, 11}, {48, 12}};
        for (int form = 0; form < 3; form++) {
            for (int[] i : itemsAndLetters) {
                PostmenMeet x = new PostmenMeet();
                x.sheet(3, form, i[0]);
                readIs(x, 3, i[1], i[1]);
            }
        }
    }

    static void promise22TwelveAndNoMore() {
        for (int before = 0; before <= 12; before++) {
            PostmenMeet x = told(before);
            x.sheet(3, 0, 60);
            readIs(x, 3, 12 - before, 12);
        }
        PostmenMeet x = told(11);
        x.sheet(3, 0, 4);
        readIs(x, 3, 1, 12);
        readIs(x, 3, 0, 12);
    }

    static void promise22EachJustAllowed() {
        for (int[] l : MAY_BE) {
            readIs(withItems(new PostmenMeet(), l), 2, 1, 1);
        }
    }

    static void promise22UntilOneMayNotBe() {
        for (int[] l : MAY_NOT_BE) {
            readIs(withItems(new PostmenMeet(), l), 2, 0, 0);
            int[] items = {0, 0, 0, 0, l[0], l[1], l[2], l[3], 0, 0, 0, 0};
            readIs(withItems(new PostmenMeet(), items), 2, 1, 1);
        }
        readIs(withItems(new PostmenMeet(), Integer.MAX_VALUE, 0, 0, 0), 2, 0, 0);
        readIs(withItems(new PostmenMeet(), 0, 0, 0, Integer.MIN_VALUE), 2, 0, 0);
    }

    static void promise22TakesEachNumberFromItsItem() {
        PostmenMeet x = withItems(Check.road("10;00u00"), 0, 1, 10, 60, 5, 16, 4, 72);
        readIs(x, 2, 2, 2);
        Check.due("late()", x.late(), 0);
        PostmenMeet never = Check.road("10;00u00");
        never.sheet(0, 0, 4);
        Check.due("never, as a byte", never.lay(0, 0, 3, -1), 1);
        readIs(never, 0, 1, 1);
        Check.due("late()", never.late(), 1);
    }

    static void promise22KeepsTheSheet() {
        PostmenMeet x = withItems(new PostmenMeet(), 1, 2, 3, 4);
        readIs(x, 2, 1, 1);
        readIs(x, 2, 1, 2);
        for (int i = 0; i < 4; i++) {
            Check.due("item " + i, x.get(2, 2, i), i + 1);
        }
    }

    static void promise22NoSuchSheetOrLost() {
        for (int s : Check.outside(0, 3)) {
            BUSY.bad("read(" + s + ")", x -> x.read(s));
        }
        BUSY.finding(Refusal.NULL, "read(3)", x -> x.read(3));
        new Refusal(() -> told(12)).finding(Refusal.NULL, "read(3) with twelve told", x -> x.read(3));
        new Refusal(() -> told(12)).bad("read(4) with twelve told", x -> x.read(4));
    }

    // ---- promise 23

    static void promise23NothingOneTwelve() {
        for (int many : new int[] {0, 1, 12}) {
            PostmenMeet x = told(many);
            Check.due("forget()", x.forget(), many);
            Check.due("LETTERS", x.count(4), 0);
            Check.due("forget() again", x.forget(), 0);
            Check.due("late()", x.late(), 0);
            Check.due("came", x.came(0, 0, 0, 0), 1);
        }
    }

    // ---- promise 24

    private static void lateIs(String road, int from, int minute, int to, int time, int want) {
        PostmenMeet x = Check.road(road);
        x.came(from, minute, to, time);
        Check.due("late() of " + from + " " + minute + " " + to + " " + time, x.late(), want);
    }

    static void promise24NoneAllOfTwelve() {
        PostmenMeet x = Check.road("10;00u00");
        Check.due("late() of none", x.late(), 0);
        for (int i = 0; i < 12; i++) {
            Check.due("came", x.came(0, 0, 10, 21), i + 1);
            Check.due("late()", x.late(), i + 1);
        }
        x.stand(0, 0, 1);
        Check.due("late() when he stands", x.late(), 12);
        x.forget();
        x.came(0, 0, 10, 22);
        Check.due("late() as told", x.late(), 0);
    }

    static void promise24JustAt400() {
        lateIs("10;00u00", 1, 199, 0, 400, 0);
        lateIs("10;00u00", 1, 199, 0, 399, 1);
        lateIs("10;00u00", 1, 199, 0, NONE, 1);
        lateIs("10;00u00", 1, 199, 2, NONE, 0);
        lateIs("10;00u00", 1, 199, 2, 400, 1);
        lateIs("10;01d00", 1, 199, 0, NONE, 0);
        lateIs("09;02u00", 2, 199, 2, NONE, 0);
    }

    static void promise24AtOnce() {
        lateIs("10;00u00", 0, 0, 0, 0, 0);
        lateIs("10;00u00", 0, 0, 0, 1, 1);
        lateIs("10;00u00", 0, 0, 0, NONE, 1);
    }

    static void promise24PacesOffTheRoad() {
        lateIs("10;00u00", 11, 0, 0, NONE, 0);
        lateIs("10;00u00", 0, 0, 11, NONE, 0);
        lateIs("10;00u00", 0, 0, 40, 80, 1);
        lateIs("40;00u00", 0, 0, 40, 80, 0);
        lateIs("", 0, 0, 0, NONE, 0);
        lateIs("", 0, 0, 0, 0, 1);
    }

    static void promise24AsAllIs() {
        PostmenMeet x = Check.road("10;00u00;10d00");
        x.came(0, 0, 10, 20);
        Check.due("both", x.late(), 0);
        x.law(0, 1);
        Check.due("turn: never", x.late(), 1);
        x.law(0, 0);
        x.stand(0, 0, 1);
        Check.due("standing", x.late(), 1);
        x.wipe();
        Check.due("wiped", x.late(), 1);
    }

    // ---- promise 25

    private static void stoodIs(String road, int many, int first, int[]... letters) {
        PostmenMeet x = Check.road(road);
        for (int[] l : letters) {
            x.came(l[0], l[1], l[2], l[3]);
        }
        Check.due(road + ": stood(0)", x.stood(0), many);
        Check.due(road + ": stood(1)", x.stood(1), first);
    }

    private static int[] letter(int... numbers) {
        return numbers;
    }

    static void promise25FromMinute0For1To10() {
        stoodIs("40;00u00", 1, 1, letter(0, 0, 1, 4));
        stoodIs("40;00u00", 1, 10, letter(0, 0, 1, 22));
        stoodIs("40;00u00", 0, NONE, letter(0, 0, 1, 24));
    }

    static void promise25FromMinute30For1To10() {
        stoodIs("40;00u00", 1, 3001, letter(0, 0, 30, 60), letter(0, 0, 31, 64));
        stoodIs("40;00u00", 1, 3010, letter(0, 0, 30, 60), letter(0, 0, 31, 82));
        stoodIs("40;00u00", 0, NONE, letter(0, 0, 30, 60), letter(0, 0, 31, 84));
    }

    static void promise25NotFromMinute31() {
        stoodIs("40;00u00", 0, NONE, letter(0, 0, 31, 62), letter(0, 0, 32, 66));
    }

    /** As told without standing: each while from 0 to 30 puts it off. */
    static void promise25NotForNoMinutes() {
        stoodIs("40;00u00", 0, NONE, letter(0, 0, 40, 80));
        stoodIs("40;00u00", 10, 3001, letter(0, 0, 30, 60));
    }

    static void promise25TheSixthMan() {
        String road = "40;00u40;01u40;02u40;03u40;04u40;05u00";
        stoodIs(road, 1, 50001, letter(5, 0, 6, 4));
        stoodIs(road, 1, 53010, letter(5, 0, 35, 60), letter(5, 0, 36, 82));
        stoodIs(road, 0, NONE, letter(5, 0, 36, 62), letter(5, 0, 37, 84));
    }

    static void promise25TheFirstByManThenMinuteThenHowLong() {
        stoodIs("40;00u00", 31, 1, letter(0, 0, 40, 82));
        stoodIs("40;00u00", 31, 10, letter(0, 0, 40, 100));
        stoodIs("40;00u00", 26, 501, letter(0, 0, 5, 10), letter(0, 0, 40, 82));
        stoodIs("40;05u00;06u00", 610, 101, letter(5, 0, 6, 2));
    }

    static void promise25AllLettersComeAsTold() {
        stoodIs("40;00u00", 0, NONE, letter(0, 0, 40, 82), letter(0, 0, 40, 84));
        stoodIs("40;00u00", 0, NONE, letter(0, 0, 40, 84), letter(0, 0, 40, 82));
        stoodIs("40;00u00", 0, NONE, letter(0, 0, 40, 82), letter(0, 0, 40, NONE));
        stoodIs("40;00u00", 31, 1, letter(0, 0, 40, 82), letter(0, 199, 0, NONE));
    }

    static void promise25JustAt400() {
        stoodIs("10;00u00", 31, 5, letter(5, 199, 5, 400));
        stoodIs("10;00u00", 248, 1, letter(5, 199, 5, NONE));
    }

    static void promise25WithoutLettersOrMen() {
        stoodIs("40;00u00", 310, 1);
        stoodIs("40;00u40;01u40;02u40;03u40;04u40;05u00", 1860, 1);
        stoodIs("40", 0, NONE);
        stoodIs("40", 0, NONE, letter(0, 0, 0, NONE));
        stoodIs("", 0, NONE);
    }

    static void promise25InsteadOfWhatHeWasTold() {
        PostmenMeet x = Check.road("40;00u00;40u40");
        x.stand(0, 20, 9);
        x.stand(1, 3, 99);
        x.came(0, 0, 39, 80);
        long before = x.digest();
        Check.due("stood(0)", x.stood(0), 31);
        Check.due("stood(1)", x.stood(1), 1);
        Check.due("nothing is changed", x.digest(), before);
        Check.due("told", x.stand(0, 0, 0), 2009);
        Check.due("told", x.stand(1, 0, 0), 399);
    }

    static void promise25HowManyOrTheFirstAndNothingElse() {
        for (int what : Check.outside(0, 1)) {
            BUSY.bad("stood(" + what + ")", x -> x.stood(what));
        }
        new Refusal(PostmenMeet::new).bad("stood(2) without a road", x -> x.stood(2));
    }
}
