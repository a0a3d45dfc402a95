/** Promises 1 to 8: a new object, the text and its FAULT, begins, house, law, stand. */
public final class RoadTest {
    public static void main(String[] args) {
        newObject();
        typing();
        faults();
        sevenths();
        faultEmptiesTheRoad();
        begins();
        houses();
        laws();
        stands();
        Check.end();
    }

    private static void newObject() {
        PostmenMeet x = new PostmenMeet();
        int[] counts = {1, 0, 0, 0, 0, 0, 0, 0, 0};
        for (int what = 0; what < counts.length; what++) {
            Check.due("new: count " + what, x.count(what), counts[what]);
        }
        Check.due("new: fault", x.fault(), 0);
        for (int s = 0; s < 4; s++) {
            Check.due("new: lose " + s, x.lose(s), -11);
        }
        Check.due("new: stand", x.stand(5, 0, 0), 0);
    }

    private static void typing() {
        PostmenMeet x = new PostmenMeet();
        Check.due("type(-1)", x.type(-1), PostmenMeet.BAD);
        Check.due("type(256)", x.type(256), PostmenMeet.BAD);
        Check.due("type(0)", x.type(0), 1);
        Check.due("type(255)", x.type(255), 2);
        Check.due("wipe()", x.wipe(), 2);
        Check.due("wipe() again", x.wipe(), 0);
        for (int i = 1; i <= 80; i++) {
            Check.due("type " + i, x.type('0'), i);
        }
        Check.due("type 81", x.type('0'), PostmenMeet.FULL);
        Check.due("type 81, bad", x.type(256), PostmenMeet.BAD);
        Check.due("bytes", x.count(3), 80);
        Check.due("wipe() of all", x.wipe(), 80);
        Check.due("wiped fault", x.fault(), 0);
    }

    private static void faultIs(String text, int want) {
        Check.due("fault of '" + text + "'", Check.road(text).fault(), want);
    }

    private static void faults() {
        faultIs("", 0);
        faultIs("x", 0);
        faultIs("1", 1);
        faultIs("1x", 1);
        faultIs("00", 0);
        faultIs("01", PostmenMeet.NONE);
        faultIs("40", PostmenMeet.NONE);
        faultIs("41", 0);
        faultIs("4/", 1);
        faultIs("4:", 1);
        faultIs("10x", 2);
        faultIs("10;", 3);
        faultIs("10;x", 3);
        faultIs("10;u", 3);
        faultIs("10;1", 4);
        faultIs("10;1;", 4);
        faultIs("10;10", 5);
        faultIs("10;11", 3);
        faultIs("10;11u00", 3);
        faultIs("10;10x", 5);
        faultIs("10;10U", 5);
        faultIs("10;10u", 6);
        faultIs("10;10d4", 7);
        faultIs("10;10d40", PostmenMeet.NONE);
        faultIs("10;10d41", 6);
        faultIs("10;10d400", 8);
        faultIs("10;10d40;", 9);
        faultIs("10;10d40;10u00", 9);
        faultIs("10;10d40;10", 9);
        faultIs("10;10d40;09u00", PostmenMeet.NONE);
        faultIs("10;h", 4);
        faultIs("10;h1", 5);
        faultIs("10;h10", PostmenMeet.NONE);
        faultIs("10;h11", 4);
        faultIs("10;hh", 4);
        faultIs("10;h10;h10", PostmenMeet.NONE);
        faultIs("10;h10;10u00;h00", PostmenMeet.NONE);
    }

    private static void sevenths() {
        String six = "10;00u00;01u00;02u00;03u00;04u00;05u00";
        faultIs(six, PostmenMeet.NONE);
        faultIs(six + ";06u00", six.length() + 1);
        faultIs(six + ";0", six.length() + 1);
        faultIs(six + ";h03", PostmenMeet.NONE);
        String houses = "10;h00;h01;h02;h03;h04;h05";
        faultIs(houses, PostmenMeet.NONE);
        faultIs(houses + ";h", houses.length() + 1);
        faultIs(houses + ";h06", houses.length() + 1);
        faultIs(houses + ";06d00", PostmenMeet.NONE);
        String all = six + houses.substring(2);
        faultIs(all, PostmenMeet.NONE);
        Check.due("all men", Check.road(all).count(1), 6);
        Check.due("all houses", Check.road(all).count(2), 6);
    }

    private static void faultEmptiesTheRoad() {
        PostmenMeet x = Check.road("10;04u07;h05");
        Check.due("length", x.count(0), 10);
        x.type(';');
        Check.due("length with a fault", x.count(0), 1);
        Check.due("men with a fault", x.count(1), 0);
        Check.due("houses with a fault", x.count(2), 0);
        Check.due("bytes with a fault", x.count(3), 13);
        Check.due("begins with a fault", x.begins(0, 0), PostmenMeet.BAD);
        Check.due("house with a fault", x.house(0), PostmenMeet.BAD);
        Check.type(x, "h06");
        Check.due("men, mended", x.count(1), 1);
        Check.due("house, mended", x.house(1), 6);
    }

    private static void begins() {
        PostmenMeet x = Check.road("40;40u07;00d40");
        int[][] want = {{40, 1, 7}, {0, -1, 40}};
        for (int man = 0; man < 2; man++) {
            for (int what = 0; what < 3; what++) {
                Check.due("begins " + man + " " + what, x.begins(man, what), want[man][what]);
            }
        }
        Check.due("begins(2, 0)", x.begins(2, 0), PostmenMeet.BAD);
        Check.due("begins(-1, 0)", x.begins(-1, 0), PostmenMeet.BAD);
        Check.due("begins(0, 3)", x.begins(0, 3), PostmenMeet.BAD);
        Check.due("begins(0, -1)", x.begins(0, -1), PostmenMeet.BAD);
    }

    private static void houses() {
        PostmenMeet x = Check.road("12;h12;03u00;h00;h12");
        Check.due("house(0)", x.house(0), 12);
        Check.due("house(1)", x.house(1), 0);
        Check.due("house(2)", x.house(2), 12);
        Check.due("house(3)", x.house(3), PostmenMeet.BAD);
        Check.due("house(-1)", x.house(-1), PostmenMeet.BAD);
    }

    private static void laws() {
        PostmenMeet x = new PostmenMeet();
        Check.due("law(0, 2)", x.law(0, 2), 0);
        Check.due("law(0, 1)", x.law(0, 1), 2);
        Check.due("law(1, 1)", x.law(1, 1), 0);
        Check.due("law(1, 0)", x.law(1, 0), 1);
        int[][] bad = {{0, 3}, {0, -1}, {1, 2}, {1, -1}, {2, 0}, {-1, 0}};
        for (int[] b : bad) {
            Check.due("law " + b[0] + " " + b[1], x.law(b[0], b[1]), PostmenMeet.BAD);
        }
        Check.due("law of two", x.count(5), 1);
        Check.due("law of more", x.count(6), 0);
        x.wipe();
        Check.due("law of two behind wipe", x.count(5), 1);
    }

    private static void stands() {
        PostmenMeet x = Check.road("10;00u00;05u00");
        Check.due("stand(5, 99, 99)", x.stand(5, 99, 99), 0);
        Check.due("of men there", x.count(7), 0);
        Check.due("stand(5, 1, 2)", x.stand(5, 1, 2), 9999);
        Check.due("stand(0, 0, 7)", x.stand(0, 0, 7), 0);
        Check.due("stand(1, 98, 8)", x.stand(1, 98, 8), 0);
        Check.due("together", x.count(7), 15);
        int[][] bad = {{6, 0, 0}, {-1, 0, 0}, {0, 100, 0}, {0, -1, 0}, {0, 0, 100}, {0, 0, -1}};
        for (int[] b : bad) {
            Check.due("stand " + b[0] + " " + b[1] + " " + b[2], x.stand(b[0], b[1], b[2]), PostmenMeet.BAD);
        }
        Check.due("stand(0, 0, 0)", x.stand(0, 0, 0), 7);
        x.wipe();
        Check.due("stand behind wipe", x.stand(1, 0, 0), 9808);
    }
}
