/** Edges of promises 1 to 8 and of THE ROAD: the last that is allowed, the first beyond it, and what is refused. */
public final class RoadEdgesTest {
    private static final int NONE = PostmenMeet.NONE, BAD = PostmenMeet.BAD, FULL = PostmenMeet.FULL;
    private static final String SIX_MEN = ";00u00;01d01;02u02;03d03;04u04;05d40";
    private static final String SIX_HOUSES = ";h00;h01;h02;h03;h05;h05";
    private static final Refusal BUSY = new Refusal(Refusal::busy);

    public static void main(String[] args) throws ReflectiveOperationException {
        Check.each(RoadEdgesTest.class);
    }

    private static void faultIs(String text, int want) {
        Check.due("fault of '" + text + "'", Check.road(text).fault(), want);
    }

    private static PostmenMeet eightyBytes() {
        return Check.road("12" + SIX_MEN + SIX_HOUSES + ";h00;h00;h00;h00;h");
    }

    // ---- promise 1

    static void promise1AnEmptyText() {
        PostmenMeet x = new PostmenMeet();
        Check.due("bytes", x.count(3), 0);
        Check.due("fault()", x.fault(), 0);
        Check.due("LENGTH", x.count(0), 1);
        Check.due("MEN", x.count(1), 0);
        Check.due("HOUSES", x.count(2), 0);
        Check.due("wipe()", x.wipe(), 0);
    }

    static void promise1AllSheetsAreLost() {
        for (int s = 0; s < 4; s++) {
            Check.due("lose(" + s + ")", new PostmenMeet().lose(s), -11);
        }
    }

    static void promise1LawsAre0And0() {
        PostmenMeet x = new PostmenMeet();
        Check.due("LAW of two", x.law(0, 0), 0);
        Check.due("LAW of more", x.law(1, 0), 0);
    }

    static void promise1NobodyIsToldToStand() {
        PostmenMeet x = new PostmenMeet();
        for (int man = 0; man < 6; man++) {
            Check.due("stand(" + man + ", 0, 0)", x.stand(man, 0, 0), 0);
        }
    }

    static void promise1NoLettersNoFinding() {
        PostmenMeet x = new PostmenMeet();
        Check.due("LETTERS", x.count(4), 0);
        Check.due("finding", x.count(8), 0);
        Check.due("forget()", x.forget(), 0);
    }

    // ---- promise 2

    static void promise2EachByteFrom0To255() {
        for (int b = 0; b <= 255; b++) {
            Check.due("type(" + b + ")", new PostmenMeet().type(b), 1);
        }
    }

    static void promise2NoOtherByte() {
        for (int b : Check.outside(0, 255)) {
            BUSY.bad("type(" + b + ")", x -> x.type(b));
        }
        BUSY.bad("type('h' + 256)", x -> x.type('h' + 256));
    }

    static void promise2EightyBytesAndNoMore() {
        PostmenMeet x = new PostmenMeet();
        for (int i = 1; i <= 80; i++) {
            Check.due("byte " + i, x.type('0'), i);
        }
        Check.due("byte 81", x.type('0'), FULL);
        Check.due("bytes", x.count(3), 80);
    }

    static void promise2FullChangesNothing() {
        Refusal full = new Refusal(RoadEdgesTest::eightyBytes);
        full.full("type('0')", x -> x.type('0'));
        full.full("type(0)", x -> x.type(0));
        full.full("type(255)", x -> x.type(255));
    }

    static void promise2BadAheadOfFull() {
        Refusal full = new Refusal(RoadEdgesTest::eightyBytes);
        for (int b : Check.outside(0, 255)) {
            full.bad("type(" + b + ") when full", x -> x.type(b));
        }
    }

    static void promise2GoesOnBehindFullWhenWiped() {
        PostmenMeet x = eightyBytes();
        Check.due("type", x.type('0'), FULL);
        Check.due("wipe()", x.wipe(), 80);
        Check.due("type", x.type('0'), 1);
        Check.due("type", x.type('1'), 2);
        Check.due("fault()", x.fault(), NONE);
    }

    // ---- promise 3

    static void promise3WipeOfNothingOfOneOfEighty() {
        Check.due("of nothing", new PostmenMeet().wipe(), 0);
        Check.due("of one", Check.road("x").wipe(), 1);
        PostmenMeet x = eightyBytes();
        Check.due("of eighty", x.wipe(), 80);
        Check.due("once more", x.wipe(), 0);
    }

    static void promise3TheRoadIsEmpty() {
        PostmenMeet x = Refusal.busy();
        x.wipe();
        int[] counts = {1, 0, 0, 0};
        for (int what = 0; what < counts.length; what++) {
            Check.due("count(" + what + ")", x.count(what), counts[what]);
        }
        Check.due("fault()", x.fault(), 0);
        Check.due("begins(0, 0)", x.begins(0, 0), BAD);
        Check.due("man(0, 0, 0)", x.man(0, 0, 0), BAD);
        Check.due("house(0)", x.house(0), BAD);
    }

    static void promise3WipeKeepsAllElse() {
        PostmenMeet x = Refusal.busy();
        x.sheet(0, 0, -1);
        x.wipe();
        Check.due("finding", x.count(8), 5);
        Check.type(x, "12;00u00;05d03;h01;h12");
        Check.holds("as it was", Refusal.readOut(x).equals(Refusal.readOut(Refusal.busy())));
    }

    // ---- promise 4

    static void promise4OfAnEmptyTextItsEnd() {
        faultIs("", 0);
        PostmenMeet x = Check.road("12");
        x.wipe();
        Check.due("wiped", x.fault(), 0);
    }

    static void promise4OfATooShortTextItsEnd() {
        String text = "12;00u00;h12;12d40";
        String whole = "..x.....x...x.....x";
        for (int n = 0; n <= text.length(); n++) {
            faultIs(text.substring(0, n), whole.charAt(n) == 'x' ? NONE : n);
        }
    }

    /** Each byte that can stand nowhere, put on each place, is where it cannot go on. */
    static void promise4AByteThatCanStandNowhere() {
        String text = "12;00u00;h12;12d40";
        for (int at = 0; at <= text.length(); at++) {
            for (int b = 0; b <= 255; b++) {
                if ("0123456789;hud".indexOf(b) < 0) {
                    faultIs(text.substring(0, at) + (char) b + "00", at);
                }
            }
        }
    }

    /** Bytes that may stand in a road, but not there. */
    static void promise4AByteOnAWrongPlace() {
        String text = "12;00u00;h12;12d40";
        String[] fitting = {"#", "#", ";", "#h", "#", "ud", "#", "#", ";", "#h", "#", "#", ";", "#h", "#", "ud", "#",
            "#", ";"};
        for (int at = 0; at < fitting.length; at++) {
            for (char c : "0;hud".toCharArray()) {
                if (fitting[at].indexOf(c == '0' ? '#' : c) < 0) {
                    faultIs(text.substring(0, at) + c, at);
                }
            }
        }
    }

    static void promise4LengthFrom01To40() {
        for (int n = 0; n <= 99; n++) {
            boolean may = n >= 1 && n <= 40;
            faultIs(Check.two(n), may ? NONE : 0);
            Check.due("LENGTH of " + n, Check.road(Check.two(n)).count(0), may ? n : 1);
        }
    }

    static void promise4PaceOfAManFrom0ToLength() {
        for (int length : new int[] {1, 9, 10, 39, 40}) {
            for (int pace = 0; pace <= 99; pace++) {
                faultIs(Check.two(length) + ";" + Check.two(pace) + "u00", pace <= length ? NONE : 3);
            }
        }
    }

    static void promise4PaceOfAHouseFrom0ToLength() {
        for (int length : new int[] {1, 9, 10, 39, 40}) {
            for (int pace = 0; pace <= 99; pace++) {
                faultIs(Check.two(length) + ";h" + Check.two(pace), pace <= length ? NONE : 4);
            }
        }
    }

    static void promise4MinuteFrom00To40() {
        for (int minute = 0; minute <= 99; minute++) {
            faultIs("12;03d" + Check.two(minute), minute <= 40 ? NONE : 6);
            faultIs("12;h07;03u" + Check.two(minute), minute <= 40 ? NONE : 10);
        }
    }

    static void promise4NoTwoMenOnOnePace() {
        faultIs("12;00u00;00u00", 9);
        faultIs("12;12d40;12u00", 9);
        faultIs("12;00u00;05d00;00d40", 15);
        faultIs("12;00u00;05d00;05d40", 15);
        faultIs("12;00u00;h00;00d40", 13);
        faultIs("12;00u00;01u00;02u00;03u00;04u00;00u00", 33);
        faultIs("12;00u00;01u00;02u00;03u00;04u00;04u00", 33);
        faultIs("12;00u00;01u00;02u00;03u00;04u00;05u00", NONE);
    }

    static void promise4AManMayBeWhereAHouseIs() {
        faultIs("12;h05;05u00", NONE);
        faultIs("12;05u00;h05", NONE);
    }

    static void promise4HousesMayBeOnOnePace() {
        faultIs("12;h05;h05", NONE);
        faultIs("12;h12;h12;h12;h12;h12;h12", NONE);
    }

    static void promise4ASeventhManAtHisFirstByte() {
        String six = "12" + SIX_MEN;
        faultIs(six, NONE);
        faultIs(six + ";", 39);
        faultIs(six + ";0", 39);
        faultIs(six + ";06x", 39);
        faultIs(six + ";06u00", 39);
        faultIs(six + ";99u99", 39);
        faultIs(six + ";h07;06u00", 43);
        faultIs(six + SIX_HOUSES + ";06u00", 63);
    }

    static void promise4ASeventhHouseAtItsH() {
        String six = "12" + SIX_HOUSES;
        faultIs(six, NONE);
        faultIs(six + ";", 27);
        faultIs(six + ";h", 27);
        faultIs(six + ";hx", 27);
        faultIs(six + ";h06", 27);
        faultIs(six + ";h99", 27);
        faultIs(six + ";07u00;h06", 33);
        faultIs(six + SIX_MEN + ";h06", 63);
    }

    static void promise4SixOfBothInAnyOrder() {
        faultIs("12" + SIX_MEN + SIX_HOUSES, NONE);
        faultIs("12" + SIX_HOUSES + SIX_MEN, NONE);
        faultIs("12;h00;00u00;h01;01u00;h02;02u00;h03;03u00;h04;04u00;h05;05u00", NONE);
    }

    static void promise4TheFirstOfTwoFaults() {
        faultIs("00x", 0);
        faultIs("41;99u99", 0);
        faultIs("12;13x", 3);
        faultIs("12;13u41", 3);
        faultIs("12;12u41;13u00", 6);
        faultIs("12;12x41", 5);
        faultIs("12;h13x", 4);
        faultIs("12;05u00;05x", 9);
        faultIs("12;05u00;05u41", 9);
        faultIs("12x;", 2);
    }

    /** A number is looked at as soon as both its figures are there. */
    static void promise4ANumberThatMayNotBeInATooShortText() {
        faultIs("12;13", 3);
        faultIs("12;h13", 4);
        faultIs("12;05u00;05", 9);
        faultIs("12;05u00;05d", 9);
        faultIs("12;12u41", 6);
        faultIs("12;12u4", 7);
        faultIs("12;1", 4);
    }

    static void promise4OfEightyBytes() {
        PostmenMeet x = eightyBytes();
        Check.due("bytes", x.count(3), 80);
        Check.due("fault", x.fault(), 63);
        faultIs("12".repeat(40), 2);
    }

    static void promise4WithAFaultLength1NoMenNoHouses() {
        for (String more : new String[] {";", "x", ";13u00", ";05u00", ";h13", ";06u41", ";07"}) {
            PostmenMeet x = Check.road("12;05u07;h12");
            Check.due("LENGTH ahead of it", x.count(0), 12);
            Check.type(x, more);
            int[] counts = {1, 0, 0, 12 + more.length(), 0, 0, 0, 0};
            for (int what = 0; what < counts.length; what++) {
                Check.due("count(" + what + ") with " + more, x.count(what), counts[what]);
            }
            Check.due("begins with " + more, x.begins(0, 0), BAD);
            Check.due("house with " + more, x.house(0), BAD);
            Check.due("pace 1 with " + more, x.letter(1, 0, 1, 1), NONE);
            Check.due("pace 2 with " + more, x.letter(2, 0, 1, 1), BAD);
        }
    }

    static void promise4ATooShortTextGoesOn() {
        PostmenMeet x = Check.road("12;05u07;h1");
        Check.due("fault", x.fault(), 11);
        Check.type(x, "2");
        Check.due("fault", x.fault(), NONE);
        Check.due("MEN", x.count(1), 1);
        Check.due("house(0)", x.house(0), 12);
    }

    static void promise4AFaultInsideStays() {
        PostmenMeet x = Check.road("12;05u41");
        Check.due("fault", x.fault(), 6);
        Check.type(x, ";h12");
        Check.due("fault behind more", x.fault(), 6);
        Check.due("HOUSES", x.count(2), 0);
    }

    // ---- promise 5

    static void promise5BeginsAtAllEdges() {
        PostmenMeet x = Check.road("40;00u00;40d40;39u39;01d01;20u20;10d10");
        int[][] want = {{0, 1, 0}, {40, -1, 40}, {39, 1, 39}, {1, -1, 1}, {20, 1, 20}, {10, -1, 10}};
        for (int man = 0; man < want.length; man++) {
            for (int what = 0; what < 3; what++) {
                Check.due("begins(" + man + ", " + what + ")", x.begins(man, what), want[man][what]);
            }
        }
    }

    static void promise5NoSuchMan() {
        for (int man : Check.outside(0, 1)) {
            BUSY.bad("begins(" + man + ", 0)", x -> x.begins(man, 0));
        }
        Refusal six = new Refusal(() -> Check.road("12" + SIX_MEN));
        for (int man : Check.outside(0, 5)) {
            six.bad("begins of six(" + man + ", 0)", x -> x.begins(man, 0));
        }
        new Refusal(PostmenMeet::new).bad("begins(0, 0) of none", x -> x.begins(0, 0));
    }

    static void promise5NothingElseOfHim() {
        for (int what : Check.outside(0, 2)) {
            BUSY.bad("begins(1, " + what + ")", x -> x.begins(1, what));
            BUSY.bad("begins(2, " + what + ")", x -> x.begins(2, what));
        }
    }

    // ---- promise 6

    static void promise6HousesAtAllEdges() {
        PostmenMeet x = Check.road("40;h00;h40;h39;h40;h01;h00");
        int[] want = {0, 40, 39, 40, 1, 0};
        for (int house = 0; house < want.length; house++) {
            Check.due("house(" + house + ")", x.house(house), want[house]);
        }
        Check.due("house(6)", x.house(6), BAD);
    }

    static void promise6NoSuchHouse() {
        for (int house : Check.outside(0, 1)) {
            BUSY.bad("house(" + house + ")", x -> x.house(house));
        }
        new Refusal(PostmenMeet::new).bad("house(0) of none", x -> x.house(0));
    }

    // ---- promise 7

    static void promise7LawsOfTwo0To2() {
        PostmenMeet x = new PostmenMeet();
        int was = 0;
        for (int v : new int[] {0, 1, 2, 2, 0, 2, 1, 0}) {
            Check.due("law(0, " + v + ")", x.law(0, v), was);
            Check.due("LAW of two", x.count(5), v);
            Check.due("LAW of more", x.count(6), 0);
            was = v;
        }
    }

    static void promise7LawsOfMore0And1() {
        PostmenMeet x = new PostmenMeet();
        int was = 0;
        for (int v : new int[] {0, 1, 1, 0}) {
            Check.due("law(1, " + v + ")", x.law(1, v), was);
            Check.due("LAW of more", x.count(6), v);
            Check.due("LAW of two", x.count(5), 0);
            was = v;
        }
    }

    static void promise7NoOtherLaw() {
        for (int v : Check.outside(0, 2)) {
            BUSY.bad("law(0, " + v + ")", x -> x.law(0, v));
        }
        for (int v : Check.outside(0, 1)) {
            BUSY.bad("law(1, " + v + ")", x -> x.law(1, v));
        }
        for (int which : Check.outside(0, 1)) {
            BUSY.bad("law(" + which + ", 0)", x -> x.law(which, 0));
            BUSY.bad("law(" + which + ", 3)", x -> x.law(which, 3));
        }
    }

    // ---- promise 8

    static void promise8From0To99For0To99() {
        PostmenMeet x = new PostmenMeet();
        int[][] told = {{0, 0}, {0, 99}, {99, 0}, {99, 99}, {0, 1}, {1, 0}};
        int was = 0;
        for (int[] t : told) {
            Check.due("stand(0, " + t[0] + ", " + t[1] + ")", x.stand(0, t[0], t[1]), was);
            was = 100 * t[0] + t[1];
        }
        Check.due("the last", x.stand(0, 0, 0), was);
    }

    static void promise8EachOfSixThereOrNot() {
        PostmenMeet x = Check.road("12;03u00");
        for (int man = 0; man < 6; man++) {
            Check.due("stand(" + man + ")", x.stand(man, 10 + man, 20 + man), 0);
        }
        for (int man = 0; man < 6; man++) {
            Check.due("stand(" + man + ") was", x.stand(man, 0, 0), 1020 + 101 * man);
        }
    }

    static void promise8WhoComesLaterStandsAsTold() {
        PostmenMeet x = Check.road("12;03d00");
        x.stand(1, 1, 2);
        Check.due("of one who is not there", x.count(7), 0);
        Check.type(x, ";05u00");
        Check.due("when he is there", x.count(7), 2);
        Check.due("he stands", x.man(1, 6, 0), 12);
        Check.due("he goes on", x.man(1, 7, 0), 13);
    }

    static void promise8NoOtherNumbers() {
        for (int man : Check.outside(0, 5)) {
            BUSY.bad("stand(" + man + ", 0, 0)", x -> x.stand(man, 0, 0));
            BUSY.bad("stand(" + man + ", 100, 100)", x -> x.stand(man, 100, 100));
        }
        for (int n : Check.outside(0, 99)) {
            BUSY.bad("stand(0, " + n + ", 0)", x -> x.stand(0, n, 0));
            BUSY.bad("stand(5, 0, " + n + ")", x -> x.stand(5, 0, n));
        }
    }
}
