import java.util.ArrayList;
import java.util.List;
import java.util.function.Supplier;
import java.util.function.ToLongFunction;

/** Calls that are refused: what they answer, and that they change nothing (FINDINGS: count(8) alone). */
final class Refusal {
    static final int NULL = 1, INDEX = 2, CAST = 3, STORE = 4, SIZE = 5;

    private final Supplier<PostmenMeet> state;

    /** The state is made anew for each call; its SHEET 3 is LOST. */
    Refusal(Supplier<PostmenMeet> state) {
        this.state = state;
    }

    /** Two men, two houses, two letters, something in all else that a call could change; SHEET 3 is LOST. */
    static PostmenMeet busy() {
        PostmenMeet x = Check.road("12;00u00;05d03;h01;h12");
        x.law(0, 2);
        x.law(1, 1);
        for (int man = 0; man < 6; man++) {
            x.stand(man, 7 + man, 3 + man);
        }
        x.came(0, 0, 12, 24);
        x.came(1, 2, 3, PostmenMeet.NONE);
        for (int s = 0; s < 3; s++) {
            x.sheet(s, s, 4 + s);
            for (int i = 0; i < 4 + s; i++) {
                x.lay(s, s, i, 10 * s + i + 1);
            }
        }
        return x;
    }

    void bad(String call, ToLongFunction<PostmenMeet> act) {
        answers(call, act, PostmenMeet.BAD, 0);
    }

    void full(String call, ToLongFunction<PostmenMeet> act) {
        answers(call, act, PostmenMeet.FULL, 0);
    }

    void finding(int number, String call, ToLongFunction<PostmenMeet> act) {
        answers(call, act, -10 - number, number);
    }

    /** get() tells each refusal alike; the number is 0 where it is BAD. */
    void leastInt(int number, String call, ToLongFunction<PostmenMeet> act) {
        answers(call, act, Integer.MIN_VALUE, number);
    }

    private void answers(String call, ToLongFunction<PostmenMeet> act, long want, int finding) {
        int earlier = finding == SIZE ? NULL : SIZE;
        PostmenMeet asked = withFinding(earlier);
        PostmenMeet left = withFinding(earlier);
        Check.due(call, act.applyAsLong(asked), want);
        Check.due("count(8) behind " + call, asked.count(8), finding == 0 ? earlier : finding);
        Check.holds(call + " changes nothing", readOut(asked).equals(readOut(left)));
    }

    private PostmenMeet withFinding(int number) {
        PostmenMeet x = state.get();
        int answer = number == SIZE ? x.sheet(0, 0, -1) : x.lose(3);
        Check.due("the earlier finding", answer, -10 - number);
        return x;
    }

    /** All that can be told of an object but count(8); it loses and wipes what it reads. */
    static List<Long> readOut(PostmenMeet x) {
        List<Long> all = new ArrayList<>();
        all.add(x.digest());
        all.add((long) x.fault());
        for (int what = 0; what <= 7; what++) {
            all.add((long) x.count(what));
        }
        all.add((long) x.stood(0));
        for (int s = 0; s < 4; s++) {
            for (int form = 0; form < 3; form++) {
                for (int i = 0; i < 8; i++) {
                    all.add((long) x.get(s, form, i));
                }
            }
            all.add((long) x.lose(s));
        }
        for (int man = 0; man < 6; man++) {
            all.add((long) x.stand(man, 0, 0));
        }
        all.add((long) x.wipe());
        return all;
    }
}
