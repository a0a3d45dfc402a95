/** Promises 17 to 20: letter, giveIn, served, fewest. */
public final class LetterTest {
    public static void main(String[] args) {
        letters();
        lettersGoIntoTheBagBehindTheChange();
        lettersTowardTheEnd();
        giveIn();
        giveInAsLettersCome();
        served();
        fewest();
        fewestWithoutTheOthers();
        Check.end();
    }

    private static void letters() {
        PostmenMeet x = Check.road("10;00u00;10d00;04u00");
        Check.letterIs(x, 5, 3, 0, 1, 20);
        Check.letterIs(x, 0, 0, 0, 0, 0);
        Check.letterIs(x, 10, 0, 10, 1, 0);
        Check.letterIs(x, 0, 0, 10, 0, 20);
        Check.letterIs(x, 4, 0, 10, 2, 12);
        Check.letterIs(x, 4, 1, 10, 0, 20);
    }

    private static void lettersGoIntoTheBagBehindTheChange() {
        PostmenMeet x = Check.road("10;00u00;10d00");
        Check.letterIs(x, 5, 5, 0, 1, 20);
        Check.letterIs(x, 5, 5, 10, 1, 40);
        x.law(0, 1);
        Check.letterIs(x, 5, 5, 0, 0, 20);
        Check.letterIs(x, 5, 5, 10, 0, PostmenMeet.NONE);
    }

    private static void lettersTowardTheEnd() {
        PostmenMeet x = Check.road("10;00u00");
        Check.letterIs(x, 0, 199, 0, 0, 400);
        Check.letterIs(x, 0, 199, 10, 0, PostmenMeet.NONE);
        Check.letterIs(x, 2, 199, 0, PostmenMeet.NONE, PostmenMeet.NONE);
        Check.letterIs(x, 1, 199, 0, 0, 400);
        PostmenMeet empty = Check.road("10;h01");
        Check.letterIs(empty, 0, 0, 0, PostmenMeet.NONE, PostmenMeet.NONE);
    }

    private static void giveInIs(PostmenMeet x, int to, int time, int house, int minute) {
        String call = "giveIn(" + to + ", " + time + ", ";
        Check.due(call + "0)", x.giveIn(to, time, 0), house);
        Check.due(call + "1)", x.giveIn(to, time, 1), minute);
    }

    private static void giveIn() {
        PostmenMeet x = Check.road("10;00u00;h00;h00;h05");
        giveInIs(x, 10, 20, 2, 5);
        giveInIs(x, 10, 19, PostmenMeet.NONE, PostmenMeet.NONE);
        giveInIs(x, 10, 59, 2, 5);
        giveInIs(x, 0, 0, 0, 0);
        giveInIs(x, 0, 39, 0, 0);
        giveInIs(x, 0, 40, 0, 20);
        giveInIs(x, 0, 400, 0, 199);
        PostmenMeet same = Check.road("10;00u00;h05;h00;h05");
        giveInIs(same, 10, 20, 0, 5);
        PostmenMeet none = Check.road("10;00u00");
        giveInIs(none, 0, 400, PostmenMeet.NONE, PostmenMeet.NONE);
    }

    /** A letter given in later may come sooner, by another bag: so all minutes are looked at. */
    private static void giveInAsLettersCome() {
        for (int to = 0; to <= 10; to++) {
            for (int time = 0; time <= 60; time += 3) {
                PostmenMeet x = Check.road("10;06u00;04d00;h05;h10");
                x.law(0, 2);
                int[] want = latestByCalls(x, to, time);
                giveInIs(x, to, time, want[0], want[1]);
            }
        }
    }

    private static int[] latestByCalls(PostmenMeet x, int to, int time) {
        for (int minute = 199; minute >= 0; minute--) {
            for (int house = 0; house < 2; house++) {
                int comes = x.letter(house == 0 ? 5 : 10, minute, to, 1);
                if (comes != PostmenMeet.NONE && comes <= time) {
                    return new int[] {house, minute};
                }
            }
        }
        return new int[] {PostmenMeet.NONE, PostmenMeet.NONE};
    }

    private static void served() {
        PostmenMeet x = Check.road("10;00u00;h00");
        Check.due("a row less one minute", x.served(19, 20), 1);
        Check.due("he is there at 0, 40", x.served(40, 20), 1);
        Check.due("one row", x.served(19, 10), 1);
        Check.due("the next would begin at 2 n", x.served(20, 10), 0);
        Check.due("three rows", x.served(39, 10), 0);
        Check.due("the third row is not whole", x.served(38, 13), 1);
        Check.due("the third row is whole", x.served(39, 13), 0);
        Check.due("all", x.served(200, 20), 1);
        PostmenMeet two = Check.road("10;00u00;10d00;h00;h10");
        Check.due("two men, two houses", two.served(200, 20), 1);
        Check.due("each house", two.served(200, 9), 0);
    }

    private static void fewest() {
        PostmenMeet x = Check.road("10;00u00;10d00;04u00;h05;h00");
        Check.due("two", x.fewest(40, 10), 3);
        Check.due("one", x.fewest(40, 20), 1);
        Check.due("no row, nobody", x.fewest(40, 99), 0);
        Check.due("nobody serves", x.fewest(40, 5), PostmenMeet.NONE);
        PostmenMeet y = Check.road("10;00u00;05u40;h05");
        Check.due("fewer is ahead of lesser bits", y.fewest(30, 1), 2);
    }

    /** Man 1 turns man 0 back ahead of the house; without him man 0 comes there. */
    private static void fewestWithoutTheOthers() {
        String road = "04;00u00;02u03;h04";
        PlainPostmen plain = new PlainPostmen();
        for (char c : road.toCharArray()) {
            plain.type(c);
        }
        plain.law(0, 1);
        for (int n = 1; n <= 40; n++) {
            PostmenMeet x = Check.road(road);
            x.law(0, 1);
            for (int g = 1; g <= 12; g++) {
                Check.due("served " + n + " " + g, x.served(n, g), plain.served(n, g));
                Check.due("fewest " + n + " " + g, x.fewest(n, g), plain.fewest(n, g));
            }
        }
    }
}
