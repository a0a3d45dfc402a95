import java.util.function.ToLongFunction;

/** Edges of promises 9 to 16: ends of the road and of time, of standing, of being together, and what is refused. */
public final class WalkEdgesTest {
    private static final int NONE = PostmenMeet.NONE;
    private static final Refusal BUSY = new Refusal(Refusal::busy);
    private static final String FROM_BOTH_ENDS = "16;00u00;16d00";

    public static void main(String[] args) throws ReflectiveOperationException {
        Check.each(WalkEdgesTest.class);
    }

    private static PostmenMeet standing(String road, int minute, int many) {
        PostmenMeet x = Check.road(road);
        x.stand(0, minute, many);
        return x;
    }

    private static PostmenMeet lawOfTwo(String road, int law) {
        PostmenMeet x = Check.road(road);
        x.law(0, law);
        return x;
    }

    private static void refusedTimes(String call, java.util.function.IntFunction<ToLongFunction<PostmenMeet>> act) {
        for (int time : Check.outside(0, 400)) {
            BUSY.bad(call + " at " + time, act.apply(time));
        }
    }

    private static void refusedMen(String call, java.util.function.IntFunction<ToLongFunction<PostmenMeet>> act) {
        for (int man : Check.outside(0, 1)) {
            BUSY.bad(call + " of " + man, act.apply(man));
        }
        new Refusal(PostmenMeet::new).bad(call + " without men", act.apply(0));
    }

    // ---- promise 9

    static void promise9AtTimes0And400() {
        PostmenMeet up = Check.road("40;00u00");
        Check.manIs(up, 0, 0, 0, 1, 0);
        Check.manIs(up, 0, 400, 80, 1, 0);
        PostmenMeet down = Check.road("40;40d00");
        Check.manIs(down, 0, 0, 80, -1, 0);
        Check.manIs(down, 0, 400, 0, -1, 0);
    }

    static void promise9NoOtherTime() {
        refusedTimes("man", time -> x -> x.man(0, time, 0));
    }

    static void promise9NoSuchMan() {
        refusedMen("man", man -> x -> x.man(man, 0, 0));
    }

    static void promise9NothingElseOfHim() {
        for (int what : Check.outside(0, 2)) {
            BUSY.bad("man(0, 0, " + what + ")", x -> x.man(0, 0, what));
            BUSY.bad("man(2, 401, " + what + ")", x -> x.man(2, 401, what));
        }
    }

    static void promise9HeSetsOutAtMinute00Or01Or40() {
        Check.manIs(Check.road("40;10u00"), 0, 1, 21);
        PostmenMeet one = Check.road("40;10u01");
        Check.manIs(one, 0, 2, 20);
        Check.manIs(one, 0, 3, 21);
        PostmenMeet forty = Check.road("40;10u40");
        Check.manIs(forty, 0, 80, 20, 1, 0);
        Check.manIs(forty, 0, 81, 21, 1, 0);
    }

    static void promise9HeStandsFromMinute0() {
        Check.manIs(standing("40;10u00", 0, 0), 0, 1, 21);
        PostmenMeet one = standing("40;10u00", 0, 1);
        Check.manIs(one, 0, 2, 20);
        Check.manIs(one, 0, 3, 21);
        PostmenMeet most = standing("40;10u00", 0, 99);
        Check.manIs(most, 0, 198, 20);
        Check.manIs(most, 0, 199, 21);
    }

    static void promise9HeStandsFromMinute99() {
        PostmenMeet none = standing("40;10u00", 99, 0);
        Check.manIs(none, 0, 198, 58);
        Check.manIs(none, 0, 199, 59);
        PostmenMeet one = standing("40;10u00", 99, 1);
        Check.manIs(one, 0, 198, 58);
        Check.manIs(one, 0, 200, 58);
        Check.manIs(one, 0, 201, 59);
        PostmenMeet most = standing("40;10u00", 99, 99);
        Check.manIs(most, 0, 396, 58);
        Check.manIs(most, 0, 397, 59);
        Check.manIs(most, 0, 400, 62);
    }

    static void promise9HeStandsAroundSettingOut() {
        int[][] toldAndGoesAt = {{4, 2, 12}, {0, 5, 10}, {0, 4, 10}, {5, 1, 12}, {0, 6, 12}, {4, 1, 10}};
        for (int[] t : toldAndGoesAt) {
            PostmenMeet x = standing("40;10u05", t[0], t[1]);
            Check.manIs(x, 0, t[2], 20);
            Check.manIs(x, 0, t[2] + 1, 21);
        }
        PostmenMeet behind = standing("40;10u05", 6, 1);
        Check.manIs(behind, 0, 12, 22);
        Check.manIs(behind, 0, 14, 22);
        Check.manIs(behind, 0, 15, 23);
    }

    static void promise9TheRoadOfOnePace() {
        int[] places = {0, 1, 2, 1, 0, 1, 2};
        int[] facing = {1, 1, 1, -1, -1, 1, 1};
        PostmenMeet x = Check.road("01;00u00");
        for (int t = 0; t < places.length; t++) {
            Check.manIs(x, 0, t, places[t], facing[t]);
        }
    }

    static void promise9HeTurnsAtAnEndAheadOfGoingOn() {
        PostmenMeet x = Check.road("40;40u00");
        Check.manIs(x, 0, 0, 80, 1);
        Check.manIs(x, 0, 1, 79, -1);
        Check.manIs(x, 0, 80, 0, -1);
        Check.manIs(x, 0, 81, 1, 1);
        Check.manIs(x, 0, 160, 80, 1);
        Check.manIs(x, 0, 161, 79, -1);
    }

    static void promise9HeDoesNotTurnAtAnEndThatHeDoesNotFace() {
        Check.manIs(Check.road("05;05d00"), 0, 1, 9, -1);
        Check.manIs(Check.road("05;00u00"), 0, 1, 1, 1);
    }

    static void promise9HeStandsAtTheEndThatHeFaces() {
        PostmenMeet high = Check.road("05;05u03");
        Check.manIs(high, 0, 6, 10, 1);
        Check.manIs(high, 0, 7, 9, -1);
        PostmenMeet low = Check.road("05;00d03");
        Check.manIs(low, 0, 6, 0, -1);
        Check.manIs(low, 0, 7, 1, 1);
        PostmenMeet arrived = standing("05;00u00", 5, 2);
        Check.manIs(arrived, 0, 14, 10, 1);
        Check.manIs(arrived, 0, 15, 9, -1);
    }

    static void promise9TwoMeetAtLength() {
        PostmenMeet both = Check.road("05;05u10;00u00");
        Check.manIs(both, 0, 9, 10, 1, 0);
        Check.manIs(both, 0, 10, 10, -1, 1);
        Check.manIs(both, 1, 10, 10, -1, 0);
        Check.manIs(both, 1, 11, 9, -1, 0);
        Check.manIs(both, 0, 20, 10, -1, 1);
        Check.manIs(both, 0, 21, 9, -1, 1);
        PostmenMeet turn = lawOfTwo("05;05u10;00u00", 1);
        Check.manIs(turn, 0, 10, 10, -1, 0);
        Check.manIs(turn, 1, 10, 10, -1, 1);
        PostmenMeet change = lawOfTwo("05;05u10;00u00", 2);
        Check.manIs(change, 0, 10, 10, 1, 1);
        Check.manIs(change, 1, 10, 10, 1, 0);
        Check.manIs(change, 1, 11, 9, -1, 0);
    }

    static void promise9TwoMeetAt0() {
        PostmenMeet both = Check.road("05;00d10;05d00");
        Check.manIs(both, 0, 10, 0, 1, 1);
        Check.manIs(both, 1, 10, 0, 1, 0);
        Check.manIs(both, 1, 11, 1, 1, 0);
        Check.manIs(both, 0, 20, 0, 1, 1);
        Check.manIs(both, 0, 21, 1, 1, 1);
        PostmenMeet change = lawOfTwo("05;00d10;05d00", 2);
        Check.manIs(change, 0, 10, 0, -1, 1);
        Check.manIs(change, 1, 10, 0, -1, 0);
        Check.manIs(change, 1, 11, 1, 1, 0);
    }

    /** He who stood with his back to the end faces it now, and turns once more ahead of going on. */
    static void promise9HeIsTurnedTowardTheEnd() {
        PostmenMeet high = Check.road("05;05d10;00u00");
        Check.manIs(high, 0, 10, 10, 1, 1);
        Check.manIs(high, 0, 20, 10, 1, 1);
        Check.manIs(high, 0, 21, 9, -1, 1);
        PostmenMeet low = Check.road("05;00u10;05d00");
        Check.manIs(low, 0, 10, 0, -1, 1);
        Check.manIs(low, 0, 20, 0, -1, 1);
        Check.manIs(low, 0, 21, 1, 1, 1);
    }

    static void promise9OneWhoStandsFacesTheOtherWayFromThenOn() {
        PostmenMeet x = Check.road("10;00u00;05u06");
        Check.manIs(x, 1, 9, 10, 1, 1);
        Check.manIs(x, 1, 10, 10, -1, 0);
        Check.manIs(x, 1, 12, 10, -1, 0);
        Check.manIs(x, 1, 13, 9, -1, 0);
    }

    /** Men 0, 2 and 3 come together; man 1 is elsewhere and keeps his bag. */
    static void promise9ThreeHandOnToTheNextGreaterOfThese() {
        PostmenMeet x = Check.road("06;01u00;06u40;05d00;03u05");
        Check.manIs(x, 0, 4, 6, 1, 0);
        Check.manIs(x, 2, 4, 6, -1, 2);
        Check.manIs(x, 3, 4, 6, 1, 3);
        x.law(1, 1);
        Check.manIs(x, 0, 4, 6, -1, 3);
        Check.manIs(x, 1, 4, 12, 1, 1);
        Check.manIs(x, 2, 4, 6, 1, 0);
        Check.manIs(x, 3, 4, 6, -1, 2);
    }

    /** They come to pace 6 one after the other and stay, so that two, three, .., six meet there. */
    private static PostmenMeet sixGather(int lawOfMore) {
        PostmenMeet x = Check.road("10;00u00;01u00;02u00;03u00;04u00;05u00");
        x.law(0, 2);
        x.law(1, lawOfMore);
        for (int man = 0; man < 6; man++) {
            x.stand(man, 6 - man, 20);
        }
        return x;
    }

    static void promise9SixOnOnePlaceDoNothing() {
        PostmenMeet x = sixGather(0);
        int[] bags = {0, 1, 2, 3, 5, 4};
        for (int man = 0; man < 6; man++) {
            Check.manIs(x, man, 12, 12, 1, bags[man]);
        }
    }

    static void promise9SixOnOnePlaceGoRound() {
        PostmenMeet x = sixGather(1);
        int[] bags = {4, 0, 3, 1, 5, 2};
        int[] facing = {-1, 1, -1, 1, 1, 1};
        for (int man = 0; man < 6; man++) {
            Check.manIs(x, man, 12, 12, facing[man], bags[man]);
        }
    }

    // ---- promise 10

    static void promise10AtTimes0And400() {
        PostmenMeet x = Check.road(FROM_BOTH_ENDS);
        Check.bagIs(x, 0, 0, 0, 0);
        Check.bagIs(x, 1, 0, 32, 1);
        Check.bagIs(x, 0, 399, 15, 0);
        Check.bagIs(x, 0, 400, 16, 1);
        Check.bagIs(x, 1, 400, 16, 0);
    }

    static void promise10BehindWhatIsDoneAtThatHalfMinute() {
        PostmenMeet x = Check.road(FROM_BOTH_ENDS);
        Check.bagIs(x, 0, 15, 15, 0);
        Check.bagIs(x, 0, 16, 16, 1);
        Check.bagIs(x, 0, 17, 17, 1);
    }

    static void promise10NoOtherTime() {
        refusedTimes("bag", time -> x -> x.bag(0, time, 0));
    }

    static void promise10NoSuchBag() {
        refusedMen("bag", bag -> x -> x.bag(bag, 0, 0));
    }

    static void promise10NothingElseOfIt() {
        for (int what : Check.outside(0, 1)) {
            BUSY.bad("bag(1, 0, " + what + ")", x -> x.bag(1, 0, what));
            BUSY.bad("bag(-1, -1, " + what + ")", x -> x.bag(-1, -1, what));
        }
    }

    // ---- promise 11

    private static void metIs(PostmenMeet x, int a, int b, int time, int want) {
        Check.due("met(" + a + ", " + b + ", " + time + ")", x.met(a, b, time), want);
        Check.due("met(" + b + ", " + a + ", " + time + ")", x.met(b, a, time), want);
    }

    static void promise11UpToATimeAndAtItToo() {
        PostmenMeet x = Check.road(FROM_BOTH_ENDS);
        metIs(x, 0, 1, 0, 0);
        metIs(x, 0, 1, 15, 0);
        metIs(x, 0, 1, 16, 1);
        metIs(x, 0, 1, 399, 12);
        metIs(x, 0, 1, 400, 13);
    }

    static void promise11NotOneWithHimself() {
        BUSY.bad("met(0, 0, 400)", x -> x.met(0, 0, 400));
        BUSY.bad("met(1, 1, 0)", x -> x.met(1, 1, 0));
    }

    static void promise11NoOtherTime() {
        refusedTimes("met", time -> x -> x.met(0, 1, time));
    }

    static void promise11NoSuchMan() {
        refusedMen("met", man -> x -> x.met(man, 1, 0));
        refusedMen("met", man -> x -> x.met(0, man, 0));
        BUSY.bad("met(2, 2, 0)", x -> x.met(2, 2, 0));
    }

    static void promise11OnceWhileBothStand() {
        PostmenMeet x = standing("10;00u00;05u40", 5, 3);
        metIs(x, 0, 1, 9, 0);
        metIs(x, 0, 1, 10, 1);
        metIs(x, 0, 1, 16, 1);
        Check.manIs(x, 0, 16, 10, -1, 1);
        Check.manIs(x, 0, 17, 9, -1, 1);
    }

    static void promise11OnceWhileTheyWalkTogether() {
        PostmenMeet x = standing("10;00u00;03u05", 3, 2);
        x.law(0, 2);
        metIs(x, 0, 1, 5, 0);
        metIs(x, 0, 1, 6, 1);
        metIs(x, 0, 1, 400, 1);
        Check.manIs(x, 0, 11, 7, 1, 1);
        Check.manIs(x, 1, 11, 7, 1, 0);
        Check.manIs(x, 0, 25, 19, -1, 1);
        Check.manIs(x, 1, 25, 19, -1, 0);
    }

    /** They part, and come together once more. */
    static void promise11TogetherAgainMeetsAgain() {
        PostmenMeet x = lawOfTwo("10;00u00;05u40", 2);
        metIs(x, 0, 1, 10, 1);
        metIs(x, 0, 1, 29, 1);
        metIs(x, 0, 1, 30, 2);
    }

    // ---- promise 12

    private static void meetingsAre(PostmenMeet x, int time, int want) {
        Check.due("meetings(" + time + ")", x.meetings(time), want);
    }

    static void promise12AtTimes0And400() {
        PostmenMeet x = Check.road(FROM_BOTH_ENDS);
        meetingsAre(x, 0, 0);
        meetingsAre(x, 15, 0);
        meetingsAre(x, 16, 1);
        meetingsAre(x, 399, 12);
        meetingsAre(x, 400, 13);
    }

    static void promise12NobodyMeetsAt0() {
        meetingsAre(Check.road("05;00u00;01d00;02u00;03d00;04u00;05d00"), 0, 0);
        meetingsAre(Check.road("05;00u00;01d00;02u00;03d00;04u00;05d00"), 1, 3);
    }

    static void promise12NoMenNoMeetings() {
        meetingsAre(new PostmenMeet(), 400, 0);
        meetingsAre(Check.road("40;20u00"), 400, 0);
    }

    static void promise12NoOtherTime() {
        refusedTimes("meetings", time -> x -> x.meetings(time));
        new Refusal(PostmenMeet::new).bad("meetings(401) without men", x -> x.meetings(401));
    }

    static void promise12AsManyPairsAsMeet() {
        for (int law = 0; law <= 1; law++) {
            PostmenMeet x = sixGather(law);
            int[] want = {0, 1, 4, 10, 20, 35};
            for (int k = 0; k < want.length; k++) {
                meetingsAre(x, 2 * k + 2, want[k]);
                meetingsAre(x, 2 * k + 3, want[k]);
            }
            meetingsAre(x, 42, 35);
        }
    }

    /** Men 1 and 2 stay together when man 0 leaves them; when he comes back all three meet. */
    static void promise12TogetherWhenOneLeaves() {
        PostmenMeet x = Check.road("10;00u00;05u40;04u01");
        x.law(0, 2);
        x.stand(2, 2, 20);
        meetingsAre(x, 3, 0);
        meetingsAre(x, 4, 1);
        meetingsAre(x, 9, 1);
        meetingsAre(x, 10, 4);
        meetingsAre(x, 29, 4);
        meetingsAre(x, 30, 7);
        metIs(x, 1, 2, 30, 3);
    }

    /** Men 0 and 2 meet on one place, men 1 and 3 on another. */
    static void promise12OnTwoPlacesAtOneTime() {
        PostmenMeet x = Check.road("20;00u00;10u00;04d00;14d00");
        meetingsAre(x, 3, 0);
        meetingsAre(x, 4, 2);
        metIs(x, 0, 2, 4, 1);
        metIs(x, 1, 3, 4, 1);
        metIs(x, 0, 1, 4, 0);
        Check.manIs(x, 2, 4, 4, 1, 0);
        Check.manIs(x, 3, 4, 24, 1, 1);
    }

    /** Two who walk together come upon two others who do. */
    static void promise12TwoAndTwo() {
        PostmenMeet x = Check.road("20;00u00;03u05;20d00;17d05");
        x.law(0, 2);
        x.stand(0, 3, 2);
        x.stand(2, 3, 2);
        meetingsAre(x, 5, 0);
        meetingsAre(x, 6, 2);
        meetingsAre(x, 23, 2);
        meetingsAre(x, 24, 8);
        meetingsAre(x, 25, 8);
        metIs(x, 0, 1, 24, 2);
        metIs(x, 0, 3, 24, 1);
        x.law(1, 1);
        int[] facing = {-1, -1, 1, 1};
        int[] bags = {2, 1, 0, 3};
        for (int man = 0; man < 4; man++) {
            Check.manIs(x, man, 24, 20, facing[man], bags[man]);
        }
    }

    // ---- promise 13

    private static void carriedIs(PostmenMeet x, int man, int bag, int time, int want) {
        Check.due("carried(" + man + ", " + bag + ", " + time + ")", x.carried(man, bag, time), want);
    }

    static void promise13FromHalfMinute0ToTimeLess1() {
        PostmenMeet x = Check.road(FROM_BOTH_ENDS);
        carriedIs(x, 0, 0, 0, 0);
        carriedIs(x, 0, 1, 0, 0);
        carriedIs(x, 0, 0, 1, 1);
        carriedIs(x, 0, 0, 16, 16);
        carriedIs(x, 0, 1, 16, 0);
        carriedIs(x, 0, 0, 17, 16);
        carriedIs(x, 0, 1, 17, 1);
    }

    static void promise13UpTo400() {
        PostmenMeet x = Check.road(FROM_BOTH_ENDS);
        carriedIs(x, 0, 0, 400, 208);
        carriedIs(x, 0, 1, 400, 192);
        carriedIs(x, 1, 0, 400, 192);
        carriedIs(Check.road("01;00u00"), 0, 0, 400, 400);
    }

    static void promise13NoOtherTime() {
        refusedTimes("carried", time -> x -> x.carried(0, 1, time));
    }

    static void promise13NoSuchManNoSuchBag() {
        refusedMen("carried", man -> x -> x.carried(man, 0, 0));
        refusedMen("carried", bag -> x -> x.carried(0, bag, 0));
    }

    // ---- promise 14

    private static void namesOffIs(PostmenMeet x, int bag, int time, int want) {
        Check.due("namesOff(" + bag + ", " + time + ")", x.namesOff(bag, time), want);
    }

    static void promise14AtTimes0And400() {
        PostmenMeet x = Check.road(FROM_BOTH_ENDS);
        namesOffIs(x, 0, 0, 0);
        namesOffIs(x, 1, 0, 32);
        namesOffIs(x, 0, 399, 15);
        namesOffIs(x, 0, 400, 16);
        namesOffIs(x, 1, 400, 16);
    }

    static void promise14ByNoLaw() {
        for (int two = 0; two <= 2; two++) {
            PostmenMeet x = lawOfTwo("06;01u00;05d00;03u05", two);
            x.law(1, 1);
            namesOffIs(x, 0, 5, 7);
            namesOffIs(x, 1, 5, 5);
            namesOffIs(x, 2, 10, 6);
            namesOffIs(x, 2, 11, 7);
        }
    }

    static void promise14StandingAsToldForTheManOfItsNumber() {
        PostmenMeet x = Check.road(FROM_BOTH_ENDS);
        x.stand(1, 5, 5);
        namesOffIs(x, 1, 10, 22);
        namesOffIs(x, 1, 20, 22);
        namesOffIs(x, 1, 21, 21);
        namesOffIs(x, 0, 21, 21);
    }

    static void promise14NoOtherTime() {
        refusedTimes("namesOff", time -> x -> x.namesOff(0, time));
    }

    static void promise14NoSuchBag() {
        refusedMen("namesOff", bag -> x -> x.namesOff(bag, 0));
    }

    // ---- promise 15

    private static void isTrueIs(PostmenMeet x, int time, int want) {
        Check.due("isTrue(" + time + ")", x.isTrue(time), want);
    }

    static void promise15AtTimes0And400() {
        PostmenMeet x = Check.road(FROM_BOTH_ENDS);
        isTrueIs(x, 0, 1);
        isTrueIs(x, 400, 1);
        isTrueIs(new PostmenMeet(), 0, 1);
        isTrueIs(new PostmenMeet(), 400, 1);
    }

    /** They are on one place when they meet; only then the bags go otherwise, and stay untrue when they are back. */
    static void promise15AtAllHalfMinutesUpToIt() {
        for (int law = 1; law <= 2; law++) {
            PostmenMeet x = lawOfTwo(FROM_BOTH_ENDS, law);
            isTrueIs(x, 0, 1);
            isTrueIs(x, 16, 1);
            isTrueIs(x, 17, 0);
            Check.due("the bag is there again", x.bag(0, 64, 0), x.namesOff(0, 64));
            isTrueIs(x, 64, 0);
            isTrueIs(x, 400, 0);
        }
    }

    /** Two who walk together meet a third at 22 and all go round: then just one of the bags goes otherwise. */
    static void promise15EachBag() {
        String[] roads = {"20;00u00;20d00;03u05", "20;00u00;03u05;20d00", "20;20d00;00u00;03u05"};
        for (int bag = 0; bag < 3; bag++) {
            PostmenMeet x = lawOfTwo(roads[bag], 2);
            x.law(1, 1);
            x.stand(bag == 2 ? 1 : 0, 3, 2);
            isTrueIs(x, 22, 1);
            isTrueIs(x, 23, 0);
            for (int b = 0; b < 3; b++) {
                Check.holds("bag " + b, b == bag != (x.bag(b, 23, 0) == x.namesOff(b, 23)));
            }
        }
    }

    static void promise15NoOtherTime() {
        refusedTimes("isTrue", time -> x -> x.isTrue(time));
        new Refusal(PostmenMeet::new).bad("isTrue(401) without men", x -> x.isTrue(401));
    }

    // ---- promise 16

    private static void againIs(PostmenMeet x, int want) {
        Check.due("again()", x.again(), want);
    }

    static void promise16TheFirstTimeAbove0() {
        againIs(Check.road("03;01u01"), 1);
        againIs(standing("03;01u00", 0, 1), 1);
        againIs(Check.road("03;01u40;02d40"), 1);
        againIs(Check.road("03;01u00"), 12);
    }

    /** Man 1 walks from man 0 to the end and back, twice; then both have their own bags and face up. */
    static void promise16NotWhileOneOfThemIsElsewhere() {
        againIs(Check.road("03;01u40;02u00"), 16);
    }

    static void promise16WithoutMen() {
        againIs(new PostmenMeet(), 1);
        againIs(Check.road("40;h07"), 1);
        againIs(Check.road("40;07u41"), 1);
    }

    static void promise16FacingAsAtFirst() {
        againIs(Check.road("03;03d00"), NONE);
        againIs(Check.road("03;03u00"), 12);
        againIs(Check.road("03;00u00"), NONE);
        againIs(Check.road("03;00d00"), 12);
    }

    /** Once a round man 0 changes bags with man 1, who stands at the end. */
    static void promise16WithTheBagsOfThen() {
        PostmenMeet x = lawOfTwo("05;05u40;01u00", 2);
        Check.manIs(x, 0, 20, 10, 1, 1);
        Check.manIs(x, 1, 20, 2, 1, 0);
        againIs(x, 40);
    }

    static void promise16WhenTheyMeetAtOnce() {
        PostmenMeet x = Check.road("03;01u00;02d00");
        Check.manIs(x, 0, 0, 2, 1, 0);
        Check.manIs(x, 0, 1, 3, -1, 1);
        againIs(x, 12);
    }

    private static PostmenMeet twoWhoStand(int many) {
        PostmenMeet x = lawOfTwo("27;20u00;19u00", 2);
        x.stand(0, 57, many);
        x.stand(1, 19, many);
        return x;
    }

    /** They do not stand at one time, so both are back only behind two rounds (216) and the standing. */
    static void promise16At400AndNotBeyond() {
        againIs(twoWhoStand(91), 398);
        againIs(twoWhoStand(92), 400);
        againIs(twoWhoStand(93), NONE);
    }
}
