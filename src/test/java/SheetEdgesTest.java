import java.math.BigInteger;

/** Edges of promises 26 to 33: sizes, forms, items, the five FINDINGS and their order, counts, longs that wrap. */
public final class SheetEdgesTest {
    private static final int NONE = PostmenMeet.NONE, BAD = PostmenMeet.BAD;
    private static final int LEAST = Integer.MIN_VALUE, MOST = Integer.MAX_VALUE;
    private static final int NULL = Refusal.NULL, INDEX = Refusal.INDEX, CAST = Refusal.CAST, STORE = Refusal.STORE,
            SIZE = Refusal.SIZE;
    /** SHEETS 0, 1, 2 have 4 bytes, 5 shorts, 6 ints; SHEET 3 is LOST. */
    private static final Refusal BUSY = new Refusal(Refusal::busy);

    public static void main(String[] args) throws ReflectiveOperationException {
        Check.each(SheetEdgesTest.class);
    }

    private static PostmenMeet row(int form, int n) {
        PostmenMeet x = new PostmenMeet();
        Check.due("sheet", x.sheet(0, form, n), n);
        return x;
    }

    private static void itemsAre(PostmenMeet x, int s, int form, int... want) {
        for (int i = 0; i < want.length; i++) {
            Check.due("get(" + s + ", " + form + ", " + i + ")", x.get(s, form, i), want[i]);
        }
    }

    // ---- promise 26

    static void promise26FromNoneToSixtyItems() {
        for (int form = 0; form < 3; form++) {
            for (int n : new int[] {0, 1, 59, 60}) {
                PostmenMeet x = new PostmenMeet();
                Check.due("sheet(3, " + form + ", " + n + ")", x.sheet(3, form, n), n);
                Check.due("lose(3)", x.lose(3), n);
                Check.due("finding", x.count(8), 0);
            }
        }
    }

    static void promise26NotAboveSixty() {
        for (int n : new int[] {61, MOST}) {
            BUSY.bad("sheet(1, 1, " + n + ")", x -> x.sheet(1, 1, n));
            BUSY.bad("sheet(3, 1, " + n + ")", x -> x.sheet(3, 1, n));
        }
    }

    static void promise26SizeBelow0() {
        for (int n : new int[] {-1, LEAST}) {
            BUSY.finding(SIZE, "sheet(1, 2, " + n + ")", x -> x.sheet(1, 2, n));
            BUSY.finding(SIZE, "sheet(3, 0, " + n + ")", x -> x.sheet(3, 0, n));
        }
    }

    static void promise26NoSuchSheetNoSuchForm() {
        for (int s : Check.outside(0, 3)) {
            BUSY.bad("sheet(" + s + ", 0, 1)", x -> x.sheet(s, 0, 1));
        }
        for (int form : Check.outside(0, 2)) {
            BUSY.bad("sheet(0, " + form + ", 1)", x -> x.sheet(0, form, 1));
        }
    }

    static void promise26BadAheadOfSize() {
        BUSY.bad("sheet(4, 0, -1)", x -> x.sheet(4, 0, -1));
        BUSY.bad("sheet(-1, 0, -1)", x -> x.sheet(-1, 0, -1));
        BUSY.bad("sheet(0, 3, -1)", x -> x.sheet(0, 3, -1));
        BUSY.bad("sheet(0, -1, -1)", x -> x.sheet(0, -1, -1));
    }

    static void promise26ItemsAre0AtFirst() {
        for (int form = 0; form < 3; form++) {
            PostmenMeet x = row(form, 60);
            for (int i = 0; i < 60; i++) {
                Check.due("get " + i, x.get(0, form, i), 0);
                Check.due("lay " + i, x.lay(0, form, i, i + 1), 1);
            }
            Check.due("a new row", x.sheet(0, form, 60), 60);
            for (int i = 0; i < 60; i++) {
                Check.due("get anew " + i, x.get(0, form, i), 0);
            }
        }
    }

    static void promise26ANewRowOfAnotherForm() {
        PostmenMeet x = row(0, 4);
        Check.due("lay", x.lay(0, 0, 3, 9), 1);
        Check.due("sheet", x.sheet(0, 2, 5), 5);
        Check.due("another form", x.get(0, 0, 0), LEAST);
        Check.due("finding", x.count(8), CAST);
        itemsAre(x, 0, 2, 0, 0, 0, 0, 0);
        Check.due("fewer", x.sheet(0, 2, 1), 1);
        Check.due("no such item", x.lay(0, 2, 1, 1), -12);
    }

    // ---- promise 27

    static void promise27HowManyItemsItHad() {
        PostmenMeet x = Refusal.busy();
        for (int s = 0; s < 3; s++) {
            Check.due("lose(" + s + ")", x.lose(s), 4 + s);
            Check.due("lose(" + s + ") again", x.lose(s), -11);
        }
        Check.due("of no items", row(1, 0).lose(0), 0);
    }

    static void promise27LostIsLost() {
        PostmenMeet x = Refusal.busy();
        x.lose(1);
        Check.due("lay", x.lay(1, 1, 0, 1), -11);
        Check.due("read", x.read(1), -11);
        Check.due("another is not", x.lay(0, 0, 0, 1), 1);
        Check.due("sheet", x.sheet(1, 1, 5), 5);
        itemsAre(x, 1, 1, 0, 0, 0, 0, 0);
    }

    static void promise27NoSuchSheetOrLost() {
        for (int s : Check.outside(0, 3)) {
            BUSY.bad("lose(" + s + ")", x -> x.lose(s));
        }
        BUSY.finding(NULL, "lose(3)", x -> x.lose(3));
    }

    // ---- promises 28, 29

    /** An item that may be neither laid nor got. */
    private static void noItem(int finding, int s, int form, int i) {
        String item = "(" + s + ", " + form + ", " + i;
        if (finding == 0) {
            BUSY.bad("lay" + item, x -> x.lay(s, form, i, 7));
        } else {
            BUSY.finding(finding, "lay" + item, x -> x.lay(s, form, i, 7));
        }
        BUSY.leastInt(finding, "get" + item, x -> x.get(s, form, i));
    }

    static void promise28TheFirstAndTheLastItem() {
        for (int form = 0; form < 3; form++) {
            for (int n : new int[] {1, 2, 60}) {
                PostmenMeet x = row(form, n);
                Check.due("lay the last", x.lay(0, form, n - 1, 5), 1);
                Check.due("lay the first", x.lay(0, form, 0, 6), 1);
                Check.due("the first", x.get(0, form, 0), 6);
                Check.due("the last", x.get(0, form, n - 1), n == 1 ? 6 : 5);
                Check.due("finding", x.count(8), 0);
                Check.due("one beyond", x.lay(0, form, n, 5), -12);
                Check.due("one below", x.lay(0, form, -1, 5), -12);
            }
        }
    }

    static void promise28OnlyThatItem() {
        PostmenMeet x = Refusal.busy();
        Check.due("lay", x.lay(1, 1, 2, 99), 1);
        itemsAre(x, 1, 1, 11, 12, 99, 14, 15);
        itemsAre(x, 0, 0, 1, 2, 3, 4);
        itemsAre(x, 2, 2, 21, 22, 23, 24, 25, 26);
    }

    static void promise28TheLowestBitsThatItHas() {
        int[][] laidAndByteAndShort = {{127, 127, 127}, {128, -128, 128}, {-128, -128, -128}, {-129, 127, -129},
            {255, -1, 255}, {256, 0, 256}, {32767, -1, 32767}, {32768, 0, -32768}, {-32768, 0, -32768},
            {-32769, -1, 32767}, {65535, -1, -1}, {65536, 0, 0}, {MOST, -1, -1}, {LEAST, 0, 0}, {-1, -1, -1}};
        for (int[] v : laidAndByteAndShort) {
            int[] want = {v[1], v[2], v[0]};
            for (int form = 0; form < 3; form++) {
                PostmenMeet x = row(form, 1);
                Check.due("lay " + v[0], x.lay(0, form, 0, v[0]), 1);
                Check.due("get " + v[0] + " of form " + form, x.get(0, form, 0), want[form]);
            }
        }
    }

    static void promise28NoItemInARowOfNone() {
        for (int form = 0; form < 3; form++) {
            Check.due("lay", row(form, 0).lay(0, form, 0, 1), -12);
            Check.due("get", row(form, 0).get(0, form, 0), LEAST);
        }
    }

    static void promise28NoSuchSheetNoSuchForm() {
        for (int s : Check.outside(0, 3)) {
            noItem(0, s, 0, 0);
        }
        for (int form : Check.outside(0, 2)) {
            noItem(0, 0, form, 0);
        }
    }

    static void promise28BadAheadOfNull() {
        noItem(0, 3, 3, 0);
        noItem(0, 3, -1, -1);
    }

    static void promise28NullAheadOfIndex() {
        for (int form = 0; form < 3; form++) {
            noItem(NULL, 3, form, 0);
            noItem(NULL, 3, form, -1);
            noItem(NULL, 3, form, 60);
        }
    }

    static void promise28CastAheadOfIndex() {
        for (int s = 0; s < 3; s++) {
            for (int form = 0; form < 3; form++) {
                if (s != form) {
                    noItem(CAST, s, form, 0);
                    noItem(CAST, s, form, -1);
                    noItem(CAST, s, form, 6);
                }
            }
        }
    }

    static void promise28IndexBelow0AndBeyond() {
        for (int s = 0; s < 3; s++) {
            for (int i : Check.outside(0, 3 + s)) {
                noItem(INDEX, s, s, i);
            }
        }
    }

    static void promise29ItemThatIsTheLeastInt() {
        PostmenMeet x = row(2, 1);
        Check.due("lay", x.lay(0, 2, 0, LEAST), 1);
        Check.due("get", x.get(0, 2, 0), LEAST);
        Check.due("no finding", x.count(8), 0);
    }

    static void promise29BadIsNoFinding() {
        PostmenMeet x = row(2, 1);
        Check.due("get(4, 2, 0)", x.get(4, 2, 0), LEAST);
        Check.due("get(0, 3, 0)", x.get(0, 3, 0), LEAST);
        Check.due("no finding", x.count(8), 0);
        Check.due("get(0, 2, 1)", x.get(0, 2, 1), LEAST);
        Check.due("finding", x.count(8), INDEX);
    }

    // ---- promise 30

    private static PostmenMeet twoRows(int form) {
        PostmenMeet x = new PostmenMeet();
        x.sheet(0, form, 5);
        x.sheet(1, form, 3);
        for (int i = 0; i < 5; i++) {
            x.lay(0, form, i, i + 1);
        }
        return x;
    }

    private static void copyIs(PostmenMeet x, int s, int i, int t, int j, int n, int want) {
        Check.due("copy(" + s + ", " + i + ", " + t + ", " + j + ", " + n + ")", x.copy(s, i, t, j, n), want);
    }

    static void promise30FromTheFirstToTheLastItem() {
        for (int form = 0; form < 3; form++) {
            PostmenMeet x = twoRows(form);
            copyIs(x, 0, 2, 1, 0, 3, 1);
            itemsAre(x, 1, form, 3, 4, 5);
            copyIs(x, 1, 0, 0, 0, 3, 1);
            itemsAre(x, 0, form, 3, 4, 5, 4, 5);
            copyIs(x, 1, 2, 0, 4, 1, 1);
            itemsAre(x, 0, form, 3, 4, 5, 4, 5);
            copyIs(x, 1, 0, 0, 2, 2, 1);
            itemsAre(x, 0, form, 3, 4, 3, 4, 5);
        }
    }

    static void promise30OfSixty() {
        PostmenMeet x = new PostmenMeet();
        x.sheet(0, 2, 60);
        x.sheet(1, 2, 60);
        for (int i = 0; i < 60; i++) {
            x.lay(0, 2, i, i + 1);
        }
        copyIs(x, 0, 0, 1, 0, 61, -12);
        copyIs(x, 0, 0, 1, 0, 60, 1);
        for (int i = 0; i < 60; i++) {
            Check.due("copied " + i, x.get(1, 2, i), i + 1);
        }
        copyIs(x, 1, 0, 1, 1, 59, 1);
        Check.due("moved", x.get(1, 2, 59), 59);
    }

    static void promise30OfItselfAsTheyWere() {
        PostmenMeet up = twoRows(0);
        copyIs(up, 0, 0, 0, 1, 4, 1);
        itemsAre(up, 0, 0, 1, 1, 2, 3, 4);
        PostmenMeet down = twoRows(0);
        copyIs(down, 0, 1, 0, 0, 4, 1);
        itemsAre(down, 0, 0, 2, 3, 4, 5, 5);
        PostmenMeet same = twoRows(0);
        copyIs(same, 0, 0, 0, 0, 5, 1);
        itemsAre(same, 0, 0, 1, 2, 3, 4, 5);
    }

    static void promise30NoItems() {
        PostmenMeet x = twoRows(1);
        copyIs(x, 0, 0, 1, 0, 0, 1);
        copyIs(x, 0, 5, 1, 3, 0, 1);
        x.sheet(2, 1, 0);
        copyIs(x, 2, 0, 0, 0, 0, 1);
        copyIs(x, 0, 0, 2, 0, 0, 1);
        Check.due("no finding", x.count(8), 0);
        copyIs(x, 0, 0, 2, 0, 1, -12);
        copyIs(x, 2, 0, 0, 0, 1, -12);
        itemsAre(x, 0, 1, 1, 2, 3, 4, 5);
    }

    static void promise30NoSuchSheets() {
        for (int s : Check.outside(0, 3)) {
            BUSY.bad("copy from " + s, x -> x.copy(s, 0, 0, 0, 1));
            BUSY.bad("copy to " + s, x -> x.copy(0, 0, s, 0, 1));
        }
    }

    static void promise30BadAheadOfNull() {
        BUSY.bad("copy from a lost one to none", x -> x.copy(3, 0, 4, 0, 1));
        BUSY.bad("copy from none to a lost one", x -> x.copy(-1, 0, 3, 0, 1));
    }

    static void promise30NullOfBoth() {
        BUSY.finding(NULL, "from a lost one", x -> x.copy(3, 0, 0, 0, 1));
        BUSY.finding(NULL, "to a lost one", x -> x.copy(0, 0, 3, 0, 1));
        BUSY.finding(NULL, "of a lost one", x -> x.copy(3, 0, 3, 0, 0));
    }

    static void promise30NullAheadOfIndex() {
        BUSY.finding(NULL, "from a lost one", x -> x.copy(3, -1, 1, 99, -1));
        BUSY.finding(NULL, "to a lost one", x -> x.copy(1, -1, 3, 99, -1));
    }

    static void promise30StoreOfUnlikeForms() {
        for (int s = 0; s < 3; s++) {
            for (int t = 0; t < 3; t++) {
                if (s != t) {
                    int from = s;
                    int to = t;
                    BUSY.finding(STORE, "copy " + s + " " + t, x -> x.copy(from, 0, to, 0, 1));
                    BUSY.finding(STORE, "copy nothing " + s + " " + t, x -> x.copy(from, 0, to, 0, 0));
                }
            }
        }
    }

    static void promise30StoreAheadOfIndex() {
        BUSY.finding(STORE, "copy", x -> x.copy(0, -1, 1, 0, 1));
        BUSY.finding(STORE, "copy", x -> x.copy(0, 0, 1, 99, 1));
        BUSY.finding(STORE, "copy", x -> x.copy(0, 0, 1, 0, -1));
    }

    private static PostmenMeet likeRows() {
        PostmenMeet x = Refusal.busy();
        x.sheet(1, 0, 6);
        x.lay(1, 0, 5, 77);
        return x;
    }

    /** SHEET 0 has four bytes here, SHEET 1 six. */
    static void promise30IndexBelow0OrNotSoMany() {
        Refusal like = new Refusal(SheetEdgesTest::likeRows);
        int[][] wrong = {{-1, 0, 1}, {0, -1, 1}, {0, 0, -1}, {-1, 0, 0}, {0, -1, 0}, {0, 0, 5}, {1, 0, 4}, {4, 0, 1},
            {5, 0, 0}, {0, 3, 4}, {0, 6, 1}, {0, 7, 0}, {LEAST, 0, 1}, {0, LEAST, 1}, {0, 0, LEAST}, {MOST, 0, 1},
            {0, MOST, 1}, {0, 0, MOST}, {1, 1, MOST}, {MOST, MOST, MOST}, {LEAST, LEAST, LEAST}, {2, 0, MOST - 1}};
        for (int[] w : wrong) {
            like.finding(INDEX, "copy " + w[0] + " " + w[1] + " " + w[2], x -> x.copy(0, w[0], 1, w[1], w[2]));
        }
        int[][] right = {{0, 0, 4}, {0, 2, 4}, {4, 6, 0}, {3, 5, 1}, {0, 0, 0}};
        for (int[] r : right) {
            copyIs(likeRows(), 0, r[0], 1, r[1], r[2], 1);
        }
    }

    // ---- promise 31

    private static PostmenMeet walker(int form, int n) {
        PostmenMeet x = Check.road("40;00u00");
        x.sheet(0, form, n);
        for (int i = 0; i < n; i++) {
            x.lay(0, form, i, 99);
        }
        return x;
    }

    private static void writeIs(PostmenMeet x, int time, int want) {
        Check.due("write(0, " + time + ", 0)", x.write(0, time, 0), want);
    }

    static void promise31AsManyAsThereAreItems() {
        for (int form = 0; form < 3; form++) {
            for (int n : new int[] {0, 1, 60}) {
                PostmenMeet x = walker(form, n);
                writeIs(x, 30, n);
                for (int i = 0; i < n; i++) {
                    Check.due("written " + i, x.get(0, form, i), 30 + i <= 80 ? 30 + i : 160 - 30 - i);
                }
            }
        }
    }

    /** At 400 he is on place 80, one lower at each half minute ahead of it. */
    static void promise31AsManyAsThereAreTimesTo400() {
        PostmenMeet last = walker(2, 3);
        writeIs(last, 400, 1);
        itemsAre(last, 0, 2, 80, 99, 99);
        PostmenMeet two = walker(1, 3);
        writeIs(two, 399, 2);
        itemsAre(two, 0, 1, 79, 80, 99);
        PostmenMeet all = walker(0, 60);
        writeIs(all, 342, 59);
        Check.due("the last", all.get(0, 0, 58), 80);
        Check.due("is kept", all.get(0, 0, 59), 99);
        PostmenMeet just = walker(0, 60);
        writeIs(just, 341, 60);
        Check.due("the first", just.get(0, 0, 0), 21);
        Check.due("the last", just.get(0, 0, 59), 80);
    }

    static void promise31FromTime0() {
        PostmenMeet x = walker(0, 3);
        writeIs(x, 0, 3);
        itemsAre(x, 0, 0, 0, 1, 2);
    }

    static void promise31NoSuchBagTimeOrSheet() {
        for (int bag : Check.outside(0, 1)) {
            BUSY.bad("write of " + bag, x -> x.write(bag, 0, 0));
        }
        for (int time : Check.outside(0, 400)) {
            BUSY.bad("write at " + time, x -> x.write(0, time, 0));
        }
        for (int s : Check.outside(0, 3)) {
            BUSY.bad("write to " + s, x -> x.write(0, 0, s));
        }
        new Refusal(PostmenMeet::new).bad("write without men", x -> x.write(0, 0, 0));
    }

    static void promise31Null() {
        BUSY.finding(NULL, "write to a lost one", x -> x.write(1, 400, 3));
    }

    static void promise31BadAheadOfNull() {
        BUSY.bad("write of no bag to a lost one", x -> x.write(2, 0, 3));
        BUSY.bad("write at no time to a lost one", x -> x.write(0, 401, 3));
        new Refusal(PostmenMeet::new).bad("write without men to a lost one", x -> x.write(0, 0, 3));
    }

    // ---- promise 32

    static void promise32TheLeast() {
        PostmenMeet x = new PostmenMeet();
        int[] want = {1, 0, 0, 0, 0, 0, 0, 0, 0};
        for (int what = 0; what < want.length; what++) {
            Check.due("count(" + what + ")", x.count(what), want[what]);
        }
    }

    static void promise32TheMost() {
        PostmenMeet x = Check.road("40;00u00;01u00;02u00;03u00;04u00;05u00;h00;h00;h00;h00;h00;h00");
        x.law(0, 2);
        x.law(1, 1);
        for (int man = 0; man < 6; man++) {
            x.stand(man, 99, 99);
        }
        for (int i = 0; i < 12; i++) {
            x.came(0, 0, 0, 0);
        }
        x.sheet(0, 0, -1);
        int[] want = {40, 6, 6, 62, 12, 2, 1, 594, 5};
        for (int what = 0; what < want.length; what++) {
            Check.due("count(" + what + ")", x.count(what), want[what]);
        }
    }

    static void promise32EachByItsNumber() {
        PostmenMeet x = Check.road("12;00u00;05d03;h01;h02;h12");
        x.law(0, 1);
        x.law(1, 1);
        x.stand(0, 5, 4);
        x.stand(1, 9, 7);
        for (int i = 0; i < 7; i++) {
            x.came(0, 0, 0, 0);
        }
        x.lay(0, 0, 0, 0);
        x.sheet(0, 0, 1);
        x.lay(0, 0, 1, 0);
        int[] want = {12, 2, 3, 26, 7, 1, 1, 11, 2};
        for (int what = 0; what < want.length; what++) {
            Check.due("count(" + what + ")", x.count(what), want[what]);
        }
    }

    static void promise32NothingElse() {
        for (int what : Check.outside(0, 8)) {
            BUSY.bad("count(" + what + ")", x -> x.count(what));
        }
    }

    static void promise32MinutesOfMenWhoAreThere() {
        PostmenMeet x = Check.road("40;00u40;01u00");
        Check.due("until they set out", x.count(7), 0);
        x.stand(2, 0, 50);
        Check.due("one who is not there", x.count(7), 0);
        x.stand(1, 99, 4);
        x.stand(0, 0, 3);
        Check.due("two", x.count(7), 7);
        x.stand(1, 99, 0);
        Check.due("one", x.count(7), 3);
    }

    static void promise32TheLatestFinding() {
        PostmenMeet x = Refusal.busy();
        Check.due("before any", x.count(8), 0);
        Check.due("NULL", x.lose(3), -11);
        Check.due("finding", x.count(8), 1);
        Check.due("INDEX", x.lay(0, 0, 4, 0), -12);
        Check.due("finding", x.count(8), 2);
        Check.due("CAST", x.lay(0, 1, 0, 0), -13);
        Check.due("finding", x.count(8), 3);
        Check.due("STORE", x.copy(0, 0, 1, 0, 1), -14);
        Check.due("finding", x.count(8), 4);
        Check.due("SIZE", x.sheet(0, 0, -1), -15);
        Check.due("finding", x.count(8), 5);
        Check.due("what is right", x.sheet(0, 0, 1), 1);
        Check.due("BAD", x.sheet(4, 0, 1), BAD);
        Check.due("keep it", x.count(8), 5);
    }

    // ---- promise 33

    private static BigInteger mixed(BigInteger h, long... values) {
        for (long v : values) {
            h = h.multiply(BigInteger.valueOf(31)).add(BigInteger.valueOf(v));
        }
        return h;
    }

    static void promise33OfANewObject() {
        BigInteger h = mixed(BigInteger.valueOf(17), 1, 0, 0, 0, 0, 0, 0, 0, 0);
        h = mixed(h, 0, 1, 1, NONE, NONE, 1, 0, 0);
        Check.due("digest()", new PostmenMeet().digest(), h.longValue());
    }

    /** One man, who met nobody, and no house; all numbers by hand, in whole numbers of any size. */
    static void promise33LongsThatWrap() {
        BigInteger h = mixed(BigInteger.valueOf(17), 40, 1, 0, 8, 1, 2, 1, 3, NONE);
        h = mixed(h, 0, 1, 0, 44, 1, 0, 74, 1, 0, 71, 400);
        h = mixed(h, 0, 1, NONE, NONE, NONE, 1, 0, 1);
        PostmenMeet x = Check.road("40;00u00");
        x.law(0, 2);
        x.law(1, 1);
        x.stand(0, 20, 3);
        x.came(0, 0, 40, 400);
        Check.holds("it is beyond longs", h.bitLength() > 100);
        Check.due("digest()", x.digest(), h.longValue());
    }

    static void promise33TheNextIsTheFirstBehindTheLast() {
        for (String road : new String[] {"10;00u00;10d00", "10;00u00;10d00;04u00", "10;00u00;01d00;h10;09u02;07d00"}) {
            PostmenMeet x = Check.road(road);
            Check.due("digest of " + road, x.digest(), byCalls(x));
        }
    }

    static void promise33OfSixMenAndSixHouses() {
        PostmenMeet x = Check.road("40;00u00;08d03;16u40;24d00;32u01;40d00;h00;h40;h20;h20;h07;h33");
        Check.due("digest()", x.digest(), byCalls(x));
        PostmenMeet y = Check.road("05;00u00;01d03;02u40;03d00;04u01;05d00;h00;h05;h02;h02;h01;h03");
        y.law(1, 1);
        Check.due("digest()", y.digest(), byCalls(y));
    }

    /** Roads of which the answers would be others a minute or half a minute away. */
    static void promise33AtJustTheseTimes() {
        PostmenMeet letters = Check.road("10;09d00;10d00;h00");
        Check.holds("bags", letters.letter(0, 9, 0, 0) != letters.letter(0, 10, 0, 0));
        Check.due("digest()", letters.digest(), byCalls(letters));
        PostmenMeet comes = Check.road("10;00u00;h05");
        Check.holds("minutes", comes.giveIn(0, 200, 1) != comes.giveIn(0, 199, 1));
        Check.due("digest()", comes.digest(), byCalls(comes));
        PostmenMeet first = Check.road("40;40d00;h40");
        first.stand(0, 0, 60);
        Check.holds("houses", first.giveIn(0, 200, 0) != first.giveIn(0, 199, 0));
        Check.due("digest()", first.digest(), byCalls(first));
        PostmenMeet leaves = Check.road("40;00u00;h00");
        leaves.stand(0, 0, 39);
        Check.holds("rows", leaves.served(60, 20) != leaves.served(59, 20));
        Check.due("digest()", leaves.digest(), byCalls(leaves));
    }

    private static long byCalls(PostmenMeet x) {
        BigInteger h = BigInteger.valueOf(17);
        for (int what = 0; what < 8; what++) {
            h = mixed(h, x.count(what));
        }
        h = mixed(h, x.fault());
        int men = x.count(1);
        for (int m = 0; m < men; m++) {
            h = mixed(h, x.begins(m, 0), x.begins(m, 1), x.begins(m, 2));
            h = mixed(h, x.man(m, 50, 0), x.man(m, 50, 1), x.man(m, 50, 2));
            h = mixed(h, x.man(m, 400, 0), x.man(m, 400, 1), x.man(m, 400, 2));
            h = mixed(h, x.namesOff(m, 77));
            h = men == 1 ? h : mixed(h, x.met(m, m == men - 1 ? 0 : m + 1, 400));
            h = mixed(h, x.carried(m, m, 400));
        }
        for (int k = 0; k < x.count(2); k++) {
            h = mixed(h, x.house(k), x.letter(0, 9, x.house(k), 0), x.letter(0, 9, x.house(k), 1));
        }
        h = mixed(h, x.meetings(400), x.isTrue(400), x.again(), x.giveIn(0, 200, 0), x.giveIn(0, 200, 1));
        return mixed(h, x.served(60, 20), x.fewest(60, 20), x.late()).longValue();
    }

    static void promise33ChangesNothing() {
        PostmenMeet x = Refusal.busy();
        x.lay(0, 1, 0, 0);
        long digest = x.digest();
        Check.due("once more", x.digest(), digest);
        Check.due("finding", x.count(8), CAST);
        Check.holds("as it was", Refusal.readOut(x).equals(Refusal.readOut(Refusal.busy())));
    }

    static void promise33NotOfFindingsAndSheets() {
        PostmenMeet x = Refusal.busy();
        long digest = x.digest();
        x.lose(0);
        x.lose(0);
        Check.due("digest()", x.digest(), digest);
    }

    static void promise33IsTheSameAtThe512thCall() {
        String road = "12;00u00;05d03;h01;h12";
        PostmenMeet x = new PostmenMeet();
        for (int call = 1; call <= road.length(); call++) {
            x.type(road.charAt(call - 1));
        }
        for (int call = road.length() + 1; call < 512; call++) {
            switch (call % 5) {
                case 0 -> x.stand(0, 7, call % 99);
                case 1 -> x.law(0, call % 3);
                case 2 -> x.stood(0);
                case 3 -> x.sheet(3, 2, call % 61);
                default -> x.digest();
            }
        }
        PostmenMeet y = Check.road(road);
        y.stand(0, 7, 510 % 99);
        y.law(0, 511 % 3);
        Check.due("the 512th", x.digest(), y.digest());
    }
}
