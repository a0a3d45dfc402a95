/** Promises 26 to 33: sheet, lose, lay, get, copy, write, count, digest. */
public final class SheetTest {
    private static final int LEAST = Integer.MIN_VALUE;

    public static void main(String[] args) {
        sheets();
        forms();
        layAndGetRefuse();
        copies();
        copyRefuses();
        writes();
        counts();
        digests();
        Check.end();
    }

    private static void sheets() {
        PostmenMeet x = new PostmenMeet();
        Check.due("sheet(0, 0, 0)", x.sheet(0, 0, 0), 0);
        Check.due("sheet(3, 2, 60)", x.sheet(3, 2, 60), 60);
        Check.due("sheet(3, 2, 61)", x.sheet(3, 2, 61), PostmenMeet.BAD);
        Check.due("sheet(4, 0, 0)", x.sheet(4, 0, 0), PostmenMeet.BAD);
        Check.due("sheet(-1, 0, -1)", x.sheet(-1, 0, -1), PostmenMeet.BAD);
        Check.due("sheet(0, 3, -1)", x.sheet(0, 3, -1), PostmenMeet.BAD);
        Check.due("sheet(0, -1, 1)", x.sheet(0, -1, 1), PostmenMeet.BAD);
        Check.due("no finding yet", x.count(8), 0);
        Check.due("sheet(3, 0, -1)", x.sheet(3, 0, -1), -15);
        Check.due("finding", x.count(8), 5);
        Check.due("lay", x.lay(3, 2, 59, 7), 1);
        Check.due("a new row", x.sheet(3, 2, 60), 60);
        Check.due("is 0", x.get(3, 2, 59), 0);
        Check.due("lose(3)", x.lose(3), 60);
        Check.due("lose(3) again", x.lose(3), -11);
        Check.due("finding", x.count(8), 1);
        Check.due("lose(0)", x.lose(0), 0);
        Check.due("lose(4)", x.lose(4), PostmenMeet.BAD);
        Check.due("lose(-1)", x.lose(-1), PostmenMeet.BAD);
    }

    private static void forms() {
        PostmenMeet x = new PostmenMeet();
        int[] laid = {0, 1, -1, 127, 128, 255, 256, 32767, 32768, 65535, 65536, Integer.MAX_VALUE, LEAST};
        for (int form = 0; form < 3; form++) {
            x.sheet(form, form, laid.length);
            for (int i = 0; i < laid.length; i++) {
                Check.due("lay", x.lay(form, form, i, laid[i]), 1);
                int want = form == 0 ? (byte) laid[i] : form == 1 ? (short) laid[i] : laid[i];
                Check.due("get form " + form + " of " + laid[i], x.get(form, form, i), want);
            }
        }
    }

    private static void layAndGetRefuse() {
        PostmenMeet x = new PostmenMeet();
        x.sheet(0, 1, 9);
        int[][] calls = {{4, 1, 0, PostmenMeet.BAD, 0}, {-1, 1, 0, PostmenMeet.BAD, 0}, {0, 3, 0, PostmenMeet.BAD, 0},
            {0, -1, 0, PostmenMeet.BAD, 0}, {1, 0, -1, -11, 1}, {0, 0, 9, -13, 3}, {0, 2, 0, -13, 3},
            {0, 1, 9, -12, 2}, {0, 1, -1, -12, 2}, {0, 1, LEAST, -12, 2}, {0, 1, Integer.MAX_VALUE, -12, 2}};
        for (int[] c : calls) {
            Check.due("lay", x.lay(c[0], c[1], c[2], 5), c[3]);
            Check.due("finding of lay", x.count(8), c[4]);
        }
        PostmenMeet y = new PostmenMeet();
        y.sheet(0, 1, 9);
        for (int[] c : calls) {
            Check.due("get", y.get(c[0], c[1], c[2]), LEAST);
            Check.due("finding of get", y.count(8), c[4]);
        }
        for (int i = 0; i < 9; i++) {
            Check.due("nothing was laid", x.get(0, 1, i), 0);
        }
    }

    private static PostmenMeet rows() {
        PostmenMeet x = new PostmenMeet();
        x.sheet(0, 0, 5);
        x.sheet(1, 0, 3);
        x.sheet(2, 2, 5);
        for (int i = 0; i < 5; i++) {
            x.lay(0, 0, i, i + 1);
        }
        return x;
    }

    private static void rowIs(PostmenMeet x, int s, int... want) {
        for (int i = 0; i < want.length; i++) {
            Check.due("item " + i + " of " + s, x.get(s, 0, i), want[i]);
        }
    }

    private static void copies() {
        PostmenMeet x = rows();
        Check.due("copy up", x.copy(0, 0, 0, 1, 4), 1);
        rowIs(x, 0, 1, 1, 2, 3, 4);
        Check.due("copy down", x.copy(0, 1, 0, 0, 4), 1);
        rowIs(x, 0, 1, 2, 3, 4, 4);
        Check.due("copy over", x.copy(0, 2, 1, 1, 2), 1);
        rowIs(x, 1, 0, 3, 4);
        Check.due("copy nothing at the end", x.copy(0, 5, 1, 3, 0), 1);
        Check.due("no finding", x.count(8), 0);
    }

    private static void copyRefuses() {
        PostmenMeet x = rows();
        int[][] bad = {{4, 0, 0, 0, 0}, {0, 0, 4, 0, 0}, {-1, 0, 3, 0, 0}, {3, 0, -1, 0, 0}};
        for (int[] b : bad) {
            Check.due("copy", x.copy(b[0], b[1], b[2], b[3], b[4]), PostmenMeet.BAD);
        }
        Check.due("no finding", x.count(8), 0);
        Check.due("from a lost one", x.copy(3, 0, 0, -1, 1), -11);
        Check.due("to a lost one", x.copy(0, -1, 3, 0, 1), -11);
        Check.due("unlike forms", x.copy(0, -1, 2, 0, 9), -14);
        Check.due("finding", x.count(8), 4);
        int[][] runs = {{-1, 0, 1}, {0, -1, 1}, {0, 0, -1}, {0, 0, 4}, {3, 0, 3}, {0, 1, 3}, {6, 0, 0}, {0, 4, 0},
            {1, 0, Integer.MAX_VALUE}, {Integer.MAX_VALUE, 0, 1}, {0, Integer.MAX_VALUE, 1}};
        for (int[] r : runs) {
            Check.due("copy " + r[0] + " " + r[1] + " " + r[2], x.copy(0, r[0], 1, r[1], r[2]), -12);
        }
        Check.due("finding", x.count(8), 2);
        rowIs(x, 1, 0, 0, 0);
    }

    private static void writes() {
        PostmenMeet x = Check.road("05;02d00");
        x.sheet(1, 2, 5);
        Check.due("write to 400", x.write(0, 398, 1), 3);
        int[] want = {6, 5, 4, 0, 0};
        for (int i = 0; i < 5; i++) {
            Check.due("written " + i, x.get(1, 2, i), want[i]);
        }
        Check.due("write all items", x.write(0, 0, 1), 5);
        Check.due("first", x.get(1, 2, 0), 4);
        Check.due("last", x.get(1, 2, 4), 0);
        x.sheet(0, 0, 60);
        Check.due("write bytes", x.write(0, 100, 0), 60);
        Check.due("last byte", x.get(0, 0, 59), x.bag(0, 159, 0));
        x.sheet(2, 1, 0);
        Check.due("write nothing", x.write(0, 0, 2), 0);
        Check.due("write at 400", x.write(0, 400, 1), 1);
        int[][] bad = {{1, 0, 0}, {-1, 0, 0}, {0, -1, 0}, {0, 401, 0}, {0, 0, 4}, {0, 0, -1}, {1, 0, 3}};
        for (int[] b : bad) {
            Check.due("write", x.write(b[0], b[1], b[2]), PostmenMeet.BAD);
        }
        Check.due("no finding", x.count(8), 0);
        Check.due("write to a lost one", x.write(0, 0, 3), -11);
    }

    private static void counts() {
        PostmenMeet x = Check.road("12;00u00;05d03;h01;h02;h12");
        x.law(0, 2);
        x.law(1, 1);
        x.stand(0, 5, 4);
        x.stand(1, 9, 7);
        x.stand(2, 9, 9);
        x.came(0, 0, 0, 0);
        x.lose(0);
        int[] want = {12, 2, 3, 26, 1, 2, 1, 11, 1};
        for (int what = 0; what < want.length; what++) {
            Check.due("count(" + what + ")", x.count(what), want[what]);
        }
        Check.due("count(9)", x.count(9), PostmenMeet.BAD);
        Check.due("count(-1)", x.count(-1), PostmenMeet.BAD);
    }

    private static void digests() {
        String[] roads = {"", "07", "07;03u02", "07;03u02;h01;h07", "10;00u00;10d00;h05", "x",
            "12;00u00;05d03;08u00;h01;h02;h12", "40;00u00;08d03;16u40;24d00;32u01;40d00;h00;h40;h20;h20;h07;h33"};
        for (String road : roads) {
            PostmenMeet x = Check.road(road);
            Check.due("digest of '" + road + "'", x.digest(), byCalls(x));
            x.law(0, 2);
            x.law(1, 1);
            x.stand(0, 3, 9);
            x.came(0, 2, 1, 9);
            Check.due("digest of '" + road + "' otherwise", x.digest(), byCalls(x));
        }
    }

    private static long byCalls(PostmenMeet x) {
        long[] h = {17};
        for (int what = 0; what < 8; what++) {
            mix(h, x.count(what));
        }
        mix(h, x.fault());
        int men = x.count(1);
        for (int m = 0; m < men; m++) {
            mix(h, x.begins(m, 0), x.begins(m, 1), x.begins(m, 2));
            mix(h, x.man(m, 50, 0), x.man(m, 50, 1), x.man(m, 50, 2));
            mix(h, x.man(m, 400, 0), x.man(m, 400, 1), x.man(m, 400, 2));
            mix(h, x.namesOff(m, 77));
            if (men > 1) {
                mix(h, x.met(m, m == men - 1 ? 0 : m + 1, 400));
            }
            mix(h, x.carried(m, m, 400));
        }
        for (int k = 0; k < x.count(2); k++) {
            mix(h, x.house(k), x.letter(0, 9, x.house(k), 0), x.letter(0, 9, x.house(k), 1));
        }
        mix(h, x.meetings(400), x.isTrue(400), x.again(), x.giveIn(0, 200, 0), x.giveIn(0, 200, 1));
        mix(h, x.served(60, 20), x.fewest(60, 20), x.late());
        return h[0];
    }

    private static void mix(long[] h, int... values) {
        for (int v : values) {
            h[0] = 31 * h[0] + v;
        }
    }
}
