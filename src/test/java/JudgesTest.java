/** Promises 17 to 19, 33 and 37: JUDGES, VERDICTS, UNIFORMITY. */
public final class JudgesTest {
    public static void main(String[] args) {
        promise17Way();
        promise18Judge();
        theFourWays();
        promise19Appeal();
        promise33Uniformity();
        promise37WouldJudge();
        Checks.end();
    }

    private static void promise17Way() {
        OnecodeChancery x = new OnecodeChancery();
        for (int judge = 0; judge < 4; judge++) {
            Checks.same("way at first", x.way(judge, 3), 0);
            Checks.same("way from 3", x.way(judge, judge), 3);
        }
        Checks.refuses("way(4, 0)", Checks.INDEX, () -> x.way(4, 0));
        Checks.refuses("way(-1, 4)", Checks.INDEX, () -> x.way(-1, 4));
        Checks.refuses("way(2, 4)", Checks.ARGUMENT, () -> x.way(2, 4));
        Checks.refuses("way(2, -1)", Checks.ARGUMENT, () -> x.way(2, -1));
        Checks.same("WAY after what was refused", x.way(2, 0), 2);
    }

    private static void promise18Judge() {
        OnecodeChancery x = new OnecodeChancery();
        Checks.refuses("judge(0, 0) without CASES", Checks.INDEX, () -> x.judge(0, 0));
        x.dispute(0, 0, 0, 0, 0, 100, 0);
        x.dispute(0, 0, 1, 0, 0, 100, 0);
        Checks.same("without a JUDGE", x.ofCase(0, 12), -1);
        Checks.same("a VERDICT that is no SHARE", x.judge(0, 3), -1);
        Checks.same("its JUDGE", x.ofCase(0, 12), 3);
        Checks.same("VERDICTS", x.realm(9), 1);
        Checks.refuses("once", Checks.STATE, () -> x.judge(0, 0));
        Checks.refuses("judge(2, 0)", Checks.INDEX, () -> x.judge(2, 0));
        Checks.refuses("judge(-1, 0)", Checks.INDEX, () -> x.judge(-1, 0));
        Checks.refuses("judge(0, 4) of one that is judged", Checks.INDEX, () -> x.judge(0, 4));
        Checks.refuses("judge(1, -1)", Checks.INDEX, () -> x.judge(1, -1));
        Checks.same("VERDICTS after what was refused", x.realm(9), 1);
        x.way(0, 2);
        x.rule(0, 0, 15, 0, 0, 45, 1);
        x.dispute(0, 0, 0, 0, 0, 100, 0);
        Checks.same("by the WAY of that JUDGE", x.judge(2, 0), 45);
        x.way(0, 0);
        x.rule(0, 0, 15, 0, 0, 5, 2);
        Checks.same("a VERDICT stays", x.ofCase(2, 13), 45);
    }

    /** CASES by CLASS: what the CODE tells, what the CUSTOM, and what each WAY makes of it. */
    private static void theFourWays() {
        int[] codes = {60, 95, 40, 5, 50, -1, 51, 49, 91, 9, 100, 0, 60, -2, 10, -1};
        int[] customs = {21, 0, 100, 6, 99, 70, -1, -2, 90, 9, 1, 90, 60, 30, 15, -2};
        int[] stretched = {70, 100, 30, 0, 50, -1, 61, 39, 100, 0, 100, 0, 70, -2, 0, -1};
        int[] resisted = {21, 0, 100, 6, 99, 70, 51, 49, 90, 9, 1, 90, 60, 30, 15, -1};
        int[] mixed = {40, 47, 70, 5, 74, -1, 51, 49, 90, 9, 50, 45, 60, -2, 12, -1};
        int[][] due = {codes, stretched, resisted, mixed};
        OnecodeChancery x = new OnecodeChancery();
        for (int judge = 0; judge < 4; judge++) {
            x.way(judge, judge);
        }
        for (int k = 0; k < codes.length; k++) {
            settle(x, k % 4, k / 4, codes[k], customs[k]);
        }
        x.pass(30);
        for (int k = 0; k < codes.length; k++) {
            x.dispute(5, 0, k % 4, k / 4, 0, 100, 0);
            Checks.same("the CODE for " + k, x.ofCase(k, 10), codes[k]);
            Checks.same("the CUSTOM for " + k, x.ofCase(k, 9), customs[k]);
            for (int judge = 0; judge < 4; judge++) {
                Checks.same("WAY " + judge + " for " + k, x.wouldJudge(k, judge), due[judge][k]);
            }
            Checks.same("the VERDICT of " + k, x.judge(k, k % 4), due[k % 4][k]);
        }
    }

    private static void settle(OnecodeChancery x, int rank, int matter, int code, int custom) {
        if (custom != -1) {
            x.rule(5, matter, 1 << rank, 0, 0, Math.max(custom, 0), 1);
        }
        if (custom == -2) {
            x.rule(5, matter, 1 << rank, 0, 0, 1, 1);
        }
        if (code != -1) {
            Checks.enact(x, "m" + matter + "c" + rank + "=" + Math.max(code, 0));
        }
        if (code == -2) {
            Checks.enact(x, "m" + matter + "c" + rank + "=1");
        }
    }

    private static void promise19Appeal() {
        OnecodeChancery x = new OnecodeChancery();
        Checks.refuses("appeal(0) without CASES", Checks.INDEX, () -> x.appeal(0));
        Checks.enact(x, "m0c0=60");
        x.pass(30);
        x.dispute(0, 0, 0, 0, 0, 100, 0);
        x.dispute(0, 0, 0, 0, 0, 100, 30);
        Checks.refuses("appeal without a VERDICT", Checks.STATE, () -> x.appeal(0));
        Checks.refuses("appeal(2)", Checks.INDEX, () -> x.appeal(2));
        Checks.refuses("appeal(-1)", Checks.INDEX, () -> x.appeal(-1));
        x.way(1, 1);
        x.way(2, 2);
        x.rule(0, 0, 15, 0, 0, 20, 1);
        Checks.same("stretched", x.judge(0, 1), 70);
        Checks.same("REVERSED", x.appeal(0), 60);
        Checks.same("how many were", x.realm(10), 1);
        Checks.same("the VERDICT then", x.ofCase(0, 13), 60);
        Checks.same("its JUDGE stays", x.ofCase(0, 12), 1);
        Checks.same("as the CODE tells already", x.appeal(0), 60);
        Checks.same("not counted", x.realm(10), 1);
        x.judge(1, 0);
        Checks.same("as of the DAY of the act, not of this one", x.appeal(1), -1);
        Checks.same("not counted either", x.realm(10), 1);
    }
    private static void promise33Uniformity() {
        OnecodeChancery x = new OnecodeChancery();
        x.rule(0, 0, 15, 0, 0, 20, 1);
        x.rule(0, 1, 15, 0, 0, 20, 1);
        x.way(1, 2);
        int[][] cases = {{0, 0, 0}, {0, 0, 0}, {0, 0, 0}, {1, 0, 0}, {0, 1, 0}, {0, 0, 1}};
        for (int[] c : cases) {
            x.dispute(0, 1, c[0], c[1], c[2], 100 + x.realm(2), 0);
        }
        Checks.same("without a VERDICT", x.uniformity(), 1.0);
        x.judge(0, 0);
        Checks.same("with one", x.uniformity(), 1.0);
        x.judge(1, 1);
        Checks.same("a pair that is not the same", x.uniformity(), 0.0);
        x.judge(3, 0);
        x.judge(4, 0);
        x.judge(5, 0);
        Checks.same("another CLASS, MATTER or set of FACTS is not ALIKE", x.uniformity(), 0.0);
        x.judge(2, 2);
        Checks.same("one of three pairs", x.uniformity(), 1.0 / 3.0);
        x.appeal(1);
        Checks.same("all the same", x.uniformity(), 1.0);
        x.swap(2, 0, 3);
        x.dispute(2, 0, 0, 0, 8, 1, 0);
        Checks.same("the FACTS are the real ones", x.ofCase(6, 4), 1);
        x.judge(6, 3);
        x.rule(2, 0, 15, 0, 0, 77, 1);
        x.dispute(2, 0, 0, 0, 8, 1, 0);
        x.judge(7, 1);
        Checks.same("some of them", x.uniformity(), 4.0 / 6.0);
    }

    private static void promise37WouldJudge() {
        OnecodeChancery x = new OnecodeChancery();
        Checks.refuses("wouldJudge(0, 0) without CASES", Checks.INDEX, () -> x.wouldJudge(0, 0));
        x.rule(3, 2, 15, 0, 0, 35, 1);
        x.dispute(3, 0, 1, 2, 0, 100, 0);
        x.way(3, 2);
        Checks.same("as the CODE", x.wouldJudge(0, 0), -1);
        Checks.same("as the CUSTOM", x.wouldJudge(0, 3), 35);
        Checks.same("nothing is changed", x.ofCase(0, 12), -1);
        x.tie(2, 1);
        Checks.same("by the TIE", x.wouldJudge(0, 3), -1);
        x.judge(0, 0);
        x.tie(2, 0);
        Checks.same("whether it has one or not", x.wouldJudge(0, 3), 35);
        Checks.same("the VERDICT stays", x.ofCase(0, 13), -1);
        Checks.refuses("wouldJudge(1, 0)", Checks.INDEX, () -> x.wouldJudge(1, 0));
        Checks.refuses("wouldJudge(-1, 0)", Checks.INDEX, () -> x.wouldJudge(-1, 0));
        Checks.refuses("wouldJudge(0, 4)", Checks.INDEX, () -> x.wouldJudge(0, 4));
        Checks.refuses("wouldJudge(0, -1)", Checks.INDEX, () -> x.wouldJudge(0, -1));
    }
}
