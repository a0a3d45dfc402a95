/** Promises 21 to 25: came, read, forget, late, stood. */
public final class StoodTest {
    public static void main(String[] args) {
        telling();
        reading();
        readingUntilFull();
        forgetting();
        late();
        stood();
        stoodInsteadOfWhatWasTold();
        stoodOfMore();
        Check.end();
    }

    private static void telling() {
        PostmenMeet x = Check.road("10;00u00");
        Check.due("came", x.came(0, 0, 10, 20), 1);
        Check.due("came, never", x.came(10, 199, 0, PostmenMeet.NONE), 2);
        Check.due("came, a pace that a longer road has", x.came(40, 0, 40, 400), 3);
        for (int i = 4; i <= 12; i++) {
            Check.due("came " + i, x.came(0, 0, 0, 0), i);
        }
        Check.due("came, the thirteenth", x.came(0, 0, 0, 0), PostmenMeet.FULL);
        Check.due("bad is ahead of full", x.came(41, 0, 0, 0), PostmenMeet.BAD);
        Check.due("told", x.count(4), 12);
        x.wipe();
        Check.due("told behind wipe", x.count(4), 12);
    }

    private static void fill(PostmenMeet x, int s, int form, int... items) {
        x.sheet(s, form, items.length);
        for (int i = 0; i < items.length; i++) {
            Check.due("lay", x.lay(s, form, i, items[i]), 1);
        }
    }

    private static void reading() {
        PostmenMeet x = Check.road("10;00u00");
        Check.due("read a lost one", x.read(0), -11);
        Check.due("finding", x.count(8), 1);
        fill(x, 0, 2, 0, 0, 10, 20, 0, 0, 5, 10, 0, 0, 5);
        Check.due("read two whole ones", x.read(0), 2);
        Check.due("told", x.count(4), 2);
        Check.due("late", x.late(), 0);
        Check.due("read once more", x.read(0), 2);
        Check.due("told", x.count(4), 4);
        fill(x, 1, 1, 0, 0, 10, 20, 0, 200, 5, 10, 0, 0, 5, 10);
        Check.due("read until one may not be", x.read(1), 1);
        Check.due("told", x.count(4), 5);
        fill(x, 2, 0, 0, 0, 10, -1);
        Check.due("read bytes", x.read(2), 1);
        Check.due("late: never", x.late(), 1);
        x.sheet(3, 0, 3);
        Check.due("read nothing whole", x.read(3), 0);
        x.sheet(3, 0, 0);
        Check.due("read nothing", x.read(3), 0);
    }

    private static void readingUntilFull() {
        PostmenMeet x = Check.road("10;00u00");
        x.sheet(0, 1, 60);
        Check.due("read of fifteen", x.read(0), 12);
        Check.due("told", x.count(4), 12);
        Check.due("read when full", x.read(0), 0);
        x.forget();
        for (int i = 0; i < 10; i++) {
            x.came(0, 0, 0, 0);
        }
        Check.due("read two more", x.read(0), 2);
    }

    private static void forgetting() {
        PostmenMeet x = Check.road("10;00u00");
        Check.due("forget nothing", x.forget(), 0);
        x.came(0, 0, 0, 0);
        x.came(0, 0, 0, 1);
        Check.due("forget two", x.forget(), 2);
        Check.due("told", x.count(4), 0);
        Check.due("late", x.late(), 0);
    }

    private static void late() {
        PostmenMeet x = Check.road("10;00u00");
        x.came(0, 0, 10, 20);
        x.came(0, 0, 10, 21);
        x.came(0, 0, 10, PostmenMeet.NONE);
        x.came(0, 199, 10, PostmenMeet.NONE);
        x.came(20, 0, 10, PostmenMeet.NONE);
        Check.due("late", x.late(), 2);
        x.stand(0, 0, 1);
        Check.due("late, standing", x.late(), 3);
        x.wipe();
        Check.due("late without anybody", x.late(), 2);
    }

    private static void stoodIs(PostmenMeet x, int many, int first) {
        Check.due("stood(0)", x.stood(0), many);
        Check.due("stood(1)", x.stood(1), first);
    }

    private static void stood() {
        PostmenMeet x = Check.road("10;00u00");
        x.came(0, 0, 10, 24);
        stoodIs(x, 10, 2);
        x.forget();
        x.came(0, 0, 10, 20);
        stoodIs(x, 210, 1001);
        x.forget();
        x.came(0, 0, 10, 40);
        stoodIs(x, 10, 10);
        x.forget();
        x.came(0, 0, 10, 42);
        stoodIs(x, 0, PostmenMeet.NONE);
        x.forget();
        x.came(0, 0, 10, PostmenMeet.NONE);
        stoodIs(x, 0, PostmenMeet.NONE);
        x.forget();
        x.came(0, 0, 5, 10);
        x.came(0, 0, 10, 26);
        stoodIs(x, 5, 503);
    }

    private static void stoodInsteadOfWhatWasTold() {
        PostmenMeet x = Check.road("10;00u00");
        x.stand(0, 3, 5);
        x.came(0, 0, 10, 24);
        stoodIs(x, 10, 2);
        Check.due("told to stand", x.stand(0, 0, 0), 305);
    }

    /** What the others were told to stand stays; the men are tried in their order. */
    private static void stoodOfMore() {
        PostmenMeet x = twoMen(1, 0, 0);
        Check.due("as told", x.late(), 0);
        stoodIs(x, countByCalls(), firstByCalls());
    }

    private static PostmenMeet twoMen(int man, int minute, int many) {
        PostmenMeet x = Check.road("10;00u00;10d00");
        x.law(0, 2);
        x.stand(0, 0, 2);
        x.came(10, 0, 10, 0);
        x.came(0, 0, 0, 0);
        x.came(0, 1, 1, 6);
        x.stand(man, minute, many);
        return x;
    }

    private static int countByCalls() {
        int many = 0;
        for (int man = 0; man < 2; man++) {
            for (int minute = 0; minute <= 30; minute++) {
                for (int length = 1; length <= 10; length++) {
                    many += twoMen(man, minute, length).late() == 0 ? 1 : 0;
                }
            }
        }
        return many;
    }

    private static int firstByCalls() {
        for (int code = 0; code < 20000; code++) {
            int minute = code / 100 % 100;
            int length = code % 100;
            if (minute <= 30 && length >= 1 && length <= 10
                    && twoMen(code / 10000, minute, length).late() == 0) {
                return code;
            }
        }
        return PostmenMeet.NONE;
    }
}
