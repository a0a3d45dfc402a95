/** Edges of promises 17 to 20: paces, minutes, letters at and behind 400, like houses, rows, and what is refused. */
public final class LetterEdgesTest {
    private static final int NONE = PostmenMeet.NONE;
    private static final Refusal BUSY = new Refusal(Refusal::busy);

    public static void main(String[] args) throws ReflectiveOperationException {
        Check.each(LetterEdgesTest.class);
    }

    private static PostmenMeet withLaw(String road, int lawOfTwo) {
        PostmenMeet x = Check.road(road);
        x.law(0, lawOfTwo);
        return x;
    }

    // ---- promise 17

    static void promise17PacesFrom0ToLength() {
        PostmenMeet x = Check.road("10;00u00");
        Check.letterIs(x, 0, 0, 10, 0, 20);
        Check.letterIs(x, 10, 0, 0, 0, 40);
        for (int pace : Check.outside(0, 12)) {
            BUSY.bad("letter from " + pace, y -> y.letter(pace, 0, 0, 0));
            BUSY.bad("letter to " + pace, y -> y.letter(0, 0, pace, 1));
        }
    }

    static void promise17PacesWithoutARoad() {
        Check.letterIs(new PostmenMeet(), 1, 0, 1, NONE, NONE);
        Check.letterIs(new PostmenMeet(), 0, 199, 0, NONE, NONE);
        Refusal empty = new Refusal(PostmenMeet::new);
        empty.bad("letter from 2", x -> x.letter(2, 0, 0, 0));
        empty.bad("letter to 2", x -> x.letter(0, 0, 2, 0));
    }

    static void promise17MinutesFrom0To199() {
        PostmenMeet x = Check.road("10;00u00");
        Check.letterIs(x, 0, 0, 0, 0, 0);
        Check.letterIs(x, 1, 199, 1, 0, 398);
        for (int minute : Check.outside(0, 199)) {
            BUSY.bad("letter at minute " + minute, y -> y.letter(0, minute, 0, 0));
        }
    }

    static void promise17BagOrWhenAndNothingElse() {
        for (int what : Check.outside(0, 1)) {
            BUSY.bad("letter, " + what, x -> x.letter(0, 0, 0, what));
            BUSY.bad("letter wrong in all, " + what, x -> x.letter(13, 200, -1, what));
        }
    }

    static void promise17ComesJustAt400() {
        PostmenMeet x = Check.road("10;00u00");
        Check.letterIs(x, 1, 199, 0, 0, 400);
        Check.letterIs(x, 2, 198, 0, 0, 400);
        Check.letterIs(x, 5, 195, 0, 0, 400);
    }

    static void promise17PutInJustAt400() {
        PostmenMeet x = Check.road("10;00u00");
        Check.letterIs(x, 0, 199, 0, 0, 400);
        Check.letterIs(x, 0, 199, 1, 0, NONE);
        Check.letterIs(x, 0, 181, 0, 0, 400);
        Check.letterIs(x, 0, 180, 0, 0, 360);
    }

    /** The man comes to pace 0 at 2, 42, .., 402. */
    static void promise17NotBehind400() {
        PostmenMeet x = Check.road("10;01d00");
        Check.letterIs(x, 1, 199, 0, 0, NONE);
        Check.letterIs(x, 2, 199, 0, 0, NONE);
        Check.letterIs(x, 2, 199, 1, 0, 400);
        Check.letterIs(x, 0, 182, 0, NONE, NONE);
        Check.letterIs(x, 0, 181, 0, 0, 362);
    }

    static void promise17NeverTaken() {
        Check.letterIs(Check.road("10;00u00"), 2, 199, 2, NONE, NONE);
        Check.letterIs(Check.road("09;02u00"), 2, 199, 2, NONE, NONE);
        Check.letterIs(Check.road("10;h05"), 5, 0, 5, NONE, NONE);
    }

    /** By change alone, bag 0 stays on the lower half of the road. */
    static void promise17TakenButNeverThere() {
        PostmenMeet x = withLaw("10;00u00;10d00", 2);
        Check.letterIs(x, 0, 0, 5, 0, 10);
        Check.letterIs(x, 0, 0, 6, 0, NONE);
        Check.letterIs(x, 0, 0, 10, 0, NONE);
    }

    static void promise17AtThatTimeOrBehindIt() {
        PostmenMeet x = Check.road("10;00u00");
        Check.letterIs(x, 0, 1, 0, 0, 40);
        Check.letterIs(x, 0, 20, 0, 0, 40);
        Check.letterIs(x, 0, 21, 0, 0, 80);
        Check.letterIs(x, 3, 3, 3, 0, 6);
        Check.letterIs(x, 3, 4, 3, 0, 34);
    }

    static void promise17OfTwoTheLesserNumber() {
        Check.letterIs(withLaw("10;10d00;00u00", 1), 5, 5, 0, 0, NONE);
        Check.letterIs(withLaw("10;00u00;10d00", 1), 5, 5, 0, 0, 20);
    }

    static void promise17BehindWhatIsDoneThen() {
        Check.letterIs(withLaw("10;10d00;00u00", 0), 5, 5, 0, 1, 40);
        Check.letterIs(withLaw("10;00u00;10d00", 0), 5, 5, 0, 1, 20);
    }

    // ---- promise 18

    private static void giveInIs(String road, int to, int time, int house, int minute) {
        PostmenMeet x = Check.road(road);
        String call = road + ": giveIn(" + to + ", " + time + ", ";
        Check.due(call + "0)", x.giveIn(to, time, 0), house);
        Check.due(call + "1)", x.giveIn(to, time, 1), minute);
    }

    static void promise18NoLaterThanATime() {
        giveInIs("10;00u00;h00", 10, 19, NONE, NONE);
        giveInIs("10;00u00;h00", 10, 20, 0, 0);
        giveInIs("10;00u00;h00", 10, 59, 0, 0);
        giveInIs("10;00u00;h00", 10, 60, 0, 20);
        giveInIs("10;00u00;h05", 10, 19, NONE, NONE);
        giveInIs("10;00u00;h05", 10, 20, 0, 5);
    }

    static void promise18Times0And400() {
        giveInIs("10;00u00;h00", 0, 0, 0, 0);
        giveInIs("10;00u00;h00", 1, 0, NONE, NONE);
        giveInIs("10;00u00;h00", 0, 399, 0, 180);
        giveInIs("10;00u00;h00", 0, 400, 0, 199);
        for (int time : Check.outside(0, 400)) {
            BUSY.bad("giveIn at " + time, x -> x.giveIn(0, time, 1));
        }
    }

    static void promise18TheGreatestMinuteIs199() {
        giveInIs("10;00u00;h01", 0, 400, 0, 199);
        giveInIs("10;00u00;h02", 0, 400, 0, 198);
    }

    static void promise18OfLikeOnesTheLeast() {
        giveInIs("10;00u00;h05;h05", 10, 20, 0, 5);
        giveInIs("10;00u00;h00;h05;h05", 10, 20, 1, 5);
        giveInIs("10;00u00;h01;h00", 0, 400, 0, 199);
        giveInIs("10;00u00;h00;h01", 0, 400, 0, 199);
        giveInIs("10;00u00;h05;h01;h00", 0, 400, 1, 199);
        giveInIs("10;00u00;h05;h04;h03;h02;h02;h01", 0, 400, 5, 199);
    }

    static void promise18WithoutHousesOrMen() {
        giveInIs("10;00u00", 0, 400, NONE, NONE);
        giveInIs("10;h00;h05", 0, 400, NONE, NONE);
        giveInIs("", 0, 400, NONE, NONE);
    }

    static void promise18PacesFrom0ToLength() {
        giveInIs("10;00u00;h00", 10, 20, 0, 0);
        for (int pace : Check.outside(0, 12)) {
            BUSY.bad("giveIn to " + pace, x -> x.giveIn(pace, 0, 0));
        }
        giveInIs("", 1, 0, NONE, NONE);
        new Refusal(PostmenMeet::new).bad("giveIn to 2 without a road", x -> x.giveIn(2, 0, 0));
    }

    static void promise18HouseOrMinuteAndNothingElse() {
        for (int what : Check.outside(0, 1)) {
            BUSY.bad("giveIn, " + what, x -> x.giveIn(0, 0, what));
            BUSY.bad("giveIn wrong in all, " + what, x -> x.giveIn(13, 401, what));
        }
    }

    // ---- promise 19

    private static void servedIs(PostmenMeet x, int n, int g, int want) {
        Check.due("served(" + n + ", " + g + ")", x.served(n, g), want);
    }

    static void promise19OneMinute() {
        servedIs(Check.road("40;00u00;h00"), 1, 1, 1);
        servedIs(Check.road("40;00u00;h01"), 1, 1, 0);
        servedIs(Check.road("40;00u00;h40"), 1, 2, 1);
    }

    /** He is there at 2 alone: that is the first of the second row of two, and no row has it when n is 1. */
    static void promise19Time2NIsInNoRow() {
        PostmenMeet x = Check.road("40;01d00;h00");
        servedIs(x, 1, 1, 0);
        servedIs(x, 2, 1, 0);
        servedIs(x, 2, 2, 1);
        servedIs(x, 1, 2, 1);
    }

    /** He stands at the house up to 80 and goes then: the row of 80 has him, that of 82 has not. */
    static void promise19TheRowWhoseNextBeginsAt2N() {
        PostmenMeet x = Check.road("40;00u40;h00");
        servedIs(x, 40, 1, 1);
        servedIs(x, 41, 1, 1);
        servedIs(x, 42, 1, 0);
        servedIs(x, 61, 21, 1);
        servedIs(x, 62, 21, 1);
        servedIs(x, 63, 21, 0);
        servedIs(x, 81, 41, 1);
        servedIs(x, 82, 41, 0);
        servedIs(x, 83, 41, 0);
    }

    /** Man 1 leaves the house at 396, and only the row of 398 has nobody. */
    static void promise19TwoHundredMinutes() {
        PostmenMeet x = withLaw("01;00u00;01d00;h00", 2);
        servedIs(x, 200, 1, 1);
        x.stand(1, 99, 99);
        servedIs(x, 199, 1, 1);
        servedIs(x, 200, 1, 0);
    }

    /** He comes at 2 and two times the minutes that he stands. */
    private static PostmenMeet lateComer(int many) {
        PostmenMeet x = Check.road("40;00u00;h01");
        x.stand(0, 0, many);
        return x;
    }

    static void promise19RowsOf99Minutes() {
        servedIs(lateComer(97), 99, 99, 1);
        servedIs(lateComer(98), 99, 99, 0);
        servedIs(lateComer(98), 98, 99, 1);
        servedIs(lateComer(97), 198, 99, 1);
        servedIs(lateComer(97), 200, 99, 1);
        servedIs(lateComer(98), 200, 99, 0);
    }

    static void promise19EachHouse() {
        servedIs(Check.road("10;00u40;10u40;h00;h10"), 40, 1, 1);
        servedIs(Check.road("10;00u40;10u40;h00;h10;h05"), 40, 1, 0);
        servedIs(Check.road("10;00u40;10u40;h05;h00;h10"), 40, 1, 0);
        servedIs(Check.road("10;05u40;h05;h05;h05;h05;h05;h05"), 40, 1, 1);
        servedIs(Check.road("10;05u40;h05;h05;h05;h05;h05;h06"), 40, 1, 0);
    }

    static void promise19WithoutAnyHouse() {
        servedIs(new PostmenMeet(), 200, 1, 1);
        servedIs(Check.road("10;00u00"), 200, 1, 1);
    }

    static void promise19WithoutMen() {
        servedIs(Check.road("10;h00"), 1, 1, 0);
        servedIs(Check.road("10;h00"), 99, 99, 0);
        servedIs(Check.road("10;h00"), 98, 99, 1);
    }

    static void promise19NoOtherNumbers() {
        for (int n : Check.outside(1, 200)) {
            BUSY.bad("served(" + n + ", 1)", x -> x.served(n, 1));
            BUSY.bad("served(" + n + ", 0)", x -> x.served(n, 0));
        }
        for (int g : Check.outside(1, 99)) {
            BUSY.bad("served(1, " + g + ")", x -> x.served(1, g));
        }
    }

    // ---- promise 20

    private static void fewestIs(String road, int n, int g, int want) {
        Check.due(road + ": fewest(" + n + ", " + g + ")", Check.road(road).fewest(n, g), want);
    }

    static void promise20WithoutAnyHouse() {
        fewestIs("", 1, 1, 0);
        fewestIs("10;00u00;05d00", 200, 1, 0);
    }

    static void promise20WhereNobodyServes() {
        fewestIs("10;h00", 1, 1, NONE);
        fewestIs("10;00u40;01u40;02u40;03u40;04u40;05u40;h06", 40, 1, NONE);
    }

    static void promise20WhereThereIsNoRow() {
        fewestIs("10;00u00;h10", 98, 99, 0);
        fewestIs("10;00u00;h10", 99, 99, 1);
        fewestIs("10;h10", 1, 2, 0);
    }

    static void promise20OneOrAllOfSix() {
        String men = "10;00u40;01u40;02u40;03u40;04u40;05u40";
        fewestIs(men + ";h00", 40, 1, 1);
        fewestIs(men + ";h05", 40, 1, 32);
        fewestIs(men + ";h00;h05", 40, 1, 33);
        fewestIs(men + ";h01;h02;h03;h04;h05", 40, 1, 62);
        fewestIs(men + ";h00;h01;h02;h03;h04;h05", 40, 1, 63);
    }

    static void promise20ByHowManyThenAsBits() {
        fewestIs("10;00u00;10d00;h05", 10, 10, 1);
        fewestIs("10;00u40;10d00;h05", 10, 10, 2);
        fewestIs("10;00u00;10d00;04u40;h04", 40, 1, 4);
        fewestIs("10;00u40;10u40;09d00;h00;h10", 8, 8, 3);
    }

    /** One man turns the other back ahead of the house, be his number greater or lesser. */
    static void promise20TheOthersNotBeingThereAtAll() {
        PostmenMeet greater = withLaw("04;00u00;02u03;h04", 1);
        Check.due("served(8, 8)", greater.served(8, 8), 0);
        Check.due("fewest(8, 8)", greater.fewest(8, 8), 1);
        PostmenMeet lesser = withLaw("04;02u40;00u00;h04", 1);
        Check.due("served(8, 8)", lesser.served(8, 8), 0);
        Check.due("fewest(8, 8)", lesser.fewest(8, 8), 2);
    }

    /** Man 2 turns man 0 back to his house; man 1, who would do so sooner, is not there. */
    static void promise20WhoIsThereMeets() {
        PostmenMeet x = withLaw("12;00u00;04u40;06u40;h00;h06", 1);
        Check.due("fewest(24, 12)", x.fewest(24, 12), 5);
        Check.due("fewest(24, 8)", x.fewest(24, 8), 7);
    }

    static void promise20NoOtherNumbers() {
        for (int n : Check.outside(1, 200)) {
            BUSY.bad("fewest(" + n + ", 1)", x -> x.fewest(n, 1));
            BUSY.bad("fewest(" + n + ", 100)", x -> x.fewest(n, 100));
        }
        for (int g : Check.outside(1, 99)) {
            BUSY.bad("fewest(1, " + g + ")", x -> x.fewest(1, g));
        }
    }
}
