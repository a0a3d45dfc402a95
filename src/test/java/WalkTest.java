/** Promises 9 to 16: man, bag, met, meetings, carried, namesOff, isTrue, again. */
public final class WalkTest {
    public static void main(String[] args) {
        oneManTurnsAtEndsWhenHeGoesOn();
        standing();
        twoMeet();
        lawsOfTwo();
        oneWhoStandsTurns();
        meetingAtAnEnd();
        threeMeet();
        togetherStillMeetsWithAThird();
        countsUpToATime();
        asItWas();
        noMen();
        changesAreSeen();
        Check.end();
    }

    private static void oneManTurnsAtEndsWhenHeGoesOn() {
        PostmenMeet x = Check.road("03;01u02");
        Check.manIs(x, 0, 0, 2, 1, 0);
        Check.manIs(x, 0, 4, 2, 1, 0);
        Check.manIs(x, 0, 5, 3, 1, 0);
        Check.manIs(x, 0, 8, 6, 1, 0);
        Check.manIs(x, 0, 9, 5, -1, 0);
        Check.manIs(x, 0, 14, 0, -1, 0);
        Check.manIs(x, 0, 15, 1, 1, 0);
        Check.manIs(Check.road("03;03u00"), 0, 1, 5, -1);
        Check.manIs(Check.road("03;00d00"), 0, 1, 1, 1);
        Check.manIs(Check.road("40;00u00"), 0, 400, 80, 1);
    }

    private static void standing() {
        PostmenMeet x = Check.road("10;00u00");
        x.stand(0, 2, 3);
        Check.manIs(x, 0, 4, 4);
        Check.manIs(x, 0, 10, 4);
        Check.manIs(x, 0, 11, 5);
        x.stand(0, 2, 0);
        Check.manIs(x, 0, 10, 10);
        x.stand(0, 99, 99);
        Check.manIs(x, 0, 198, 2);
        Check.manIs(x, 0, 396, 2);
        Check.manIs(x, 0, 397, 1);
        PostmenMeet late = Check.road("10;00u05");
        late.stand(0, 4, 2);
        Check.manIs(late, 0, 12, 0);
        Check.manIs(late, 0, 13, 1);
        Check.due("names off, standing", late.namesOff(0, 13), 1);
    }

    private static void twoMeet() {
        PostmenMeet x = Check.road("10;00u00;10d00");
        Check.manIs(x, 0, 9, 9, 1, 0);
        Check.manIs(x, 0, 10, 10, -1, 1);
        Check.manIs(x, 1, 10, 10, 1, 0);
        Check.manIs(x, 0, 11, 9, -1, 1);
        Check.bagIs(x, 0, 10, 10, 1);
        Check.bagIs(x, 0, 20, 20, 1);
        Check.bagIs(x, 1, 20, 0, 0);
        Check.due("names off", x.namesOff(0, 20), 20);
        Check.due("names off", x.namesOff(1, 39), 19);
        Check.due("true", x.isTrue(400), 1);
    }

    private static void lawsOfTwo() {
        PostmenMeet x = Check.road("10;00u00;10d00");
        x.law(0, 1);
        Check.manIs(x, 0, 11, 9, -1, 0);
        Check.manIs(x, 1, 11, 11, 1, 1);
        Check.due("turn: true till they met", x.isTrue(10), 1);
        Check.due("turn: true no more", x.isTrue(11), 0);
        x.law(0, 2);
        Check.manIs(x, 0, 11, 11, 1, 1);
        Check.manIs(x, 1, 11, 9, -1, 0);
        Check.due("change: true no more", x.isTrue(11), 0);
        x.law(0, 0);
        Check.manIs(x, 0, 11, 9, -1, 1);
    }

    private static void oneWhoStandsTurns() {
        PostmenMeet x = Check.road("10;00u00;05u40");
        Check.manIs(x, 1, 9, 10, 1, 1);
        Check.manIs(x, 1, 10, 10, -1, 0);
        Check.manIs(x, 0, 10, 10, -1, 1);
        Check.manIs(x, 1, 29, 10, -1, 0);
        Check.manIs(x, 1, 30, 10, 1, 1);
        Check.manIs(x, 1, 50, 10, -1, 0);
        Check.manIs(x, 1, 70, 10, 1, 1);
        Check.manIs(x, 1, 80, 10, 1, 1);
        Check.manIs(x, 1, 81, 11, 1, 1);
        Check.due("met", x.met(1, 0, 80), 4);
    }

    private static void meetingAtAnEnd() {
        PostmenMeet x = Check.road("05;05u10;00u00");
        Check.manIs(x, 0, 10, 10, -1, 1);
        Check.manIs(x, 1, 10, 10, -1, 0);
        Check.manIs(x, 1, 11, 9, -1, 0);
        x.law(0, 2);
        Check.manIs(x, 1, 10, 10, 1, 0);
        Check.manIs(x, 1, 11, 9, -1, 0);
        PostmenMeet y = Check.road("05;05d10;00u00");
        Check.manIs(y, 0, 10, 10, 1, 1);
        y.stand(1, 6, 20);
        Check.manIs(y, 0, 21, 9, -1, 1);
    }

    private static void threeMeet() {
        PostmenMeet x = Check.road("06;01u00;05d00;03u05");
        Check.manIs(x, 0, 4, 6, 1, 0);
        Check.manIs(x, 1, 4, 6, -1, 1);
        Check.manIs(x, 0, 5, 7, 1, 0);
        Check.due("three who do nothing MET", x.meetings(4), 3);
        x.law(1, 1);
        Check.manIs(x, 0, 4, 6, -1, 2);
        Check.manIs(x, 1, 4, 6, 1, 0);
        Check.manIs(x, 2, 4, 6, -1, 1);
        Check.bagIs(x, 2, 4, 6, 0);
        Check.due("met(0, 1)", x.met(0, 1, 4), 1);
        Check.due("met(2, 0)", x.met(2, 0, 4), 1);
        Check.due("met(1, 2)", x.met(1, 2, 4), 1);
        Check.due("ahead of it", x.met(1, 2, 3), 0);
    }

    private static void togetherStillMeetsWithAThird() {
        PostmenMeet x = Check.road("10;00u00;05u40;10d02");
        x.stand(0, 5, 3);
        Check.due("two, once", x.meetings(13), 1);
        Check.manIs(x, 0, 13, 10, -1, 1);
        Check.due("then all three", x.meetings(14), 4);
        Check.due("the two, twice", x.met(0, 1, 14), 2);
        Check.due("and no more while together", x.meetings(15), 4);
        Check.manIs(x, 0, 14, 10, -1, 1);
        x.law(1, 1);
        Check.manIs(x, 0, 14, 10, 1, 2);
        Check.manIs(x, 1, 14, 10, 1, 1);
        Check.manIs(x, 2, 14, 10, 1, 0);
    }

    private static void countsUpToATime() {
        PostmenMeet x = Check.road("10;00u00;10d00");
        Check.due("met up to 9", x.met(0, 1, 9), 0);
        Check.due("met up to 10", x.met(0, 1, 10), 1);
        Check.due("met up to 30", x.met(1, 0, 30), 2);
        Check.due("meetings up to 400", x.meetings(400), 20);
        Check.due("carried up to 0", x.carried(0, 0, 0), 0);
        Check.due("carried up to 10", x.carried(0, 0, 10), 10);
        Check.due("carried up to 11", x.carried(0, 0, 11), 10);
        Check.due("the other's up to 11", x.carried(0, 1, 11), 1);
        Check.due("the other's up to 30", x.carried(0, 1, 30), 20);
    }

    private static void asItWas() {
        Check.due("again", Check.road("03;01u00").again(), 12);
        Check.due("again, at the end he faces", Check.road("03;03u00").again(), 12);
        Check.due("again, never facing so", Check.road("03;03d00").again(), PostmenMeet.NONE);
        Check.due("again, standing", Check.road("03;01u01").again(), 1);
        Check.due("again, of two", Check.road("06;01u00;05d00").again(), 24);
        PostmenMeet turning = Check.road("06;01u00;05d00");
        turning.law(0, 1);
        Check.due("again, turning", turning.again(), 12);
        PostmenMeet changing = Check.road("06;01u00;05d00");
        changing.law(0, 2);
        Check.due("again, changing", changing.again(), 24);
        Check.due("again, at 400 itself", afterStanding(92), 400);
        Check.due("again, behind 400", afterStanding(93), PostmenMeet.NONE);
    }

    private static int afterStanding(int many) {
        PostmenMeet x = Check.road("27;20u00;19u00");
        x.law(0, 2);
        x.stand(0, 57, many);
        x.stand(1, 19, many);
        return x.again();
    }

    private static void noMen() {
        PostmenMeet x = Check.road("07;h03");
        Check.due("meetings", x.meetings(400), 0);
        Check.due("true", x.isTrue(400), 1);
        Check.due("again", x.again(), 1);
    }

    /** Each act behind an answer is seen by the next. */
    private static void changesAreSeen() {
        PostmenMeet x = Check.road("10;00u00");
        Check.manIs(x, 0, 11, 11, 1, 0);
        Check.type(x, ";10d00");
        Check.manIs(x, 0, 11, 9, -1, 1);
        x.law(0, 2);
        Check.manIs(x, 0, 11, 11, 1, 1);
        x.stand(0, 0, 9);
        Check.manIs(x, 0, 11, 0, 1, 0);
        Check.type(x, ";02u00");
        Check.manIs(x, 2, 11, 15, 1, 1);
        x.law(1, 1);
        x.wipe();
        Check.due("again, wiped", x.again(), 1);
        Check.type(x, "06;01u00;05d00;03u05");
        x.stand(0, 0, 0);
        Check.manIs(x, 0, 4, 6, -1, 2);
        x.law(1, 0);
        Check.manIs(x, 0, 4, 6, 1, 0);
    }
}
