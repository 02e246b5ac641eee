/** The bounds that the "Terms" name for JUDGES and old CASES (section 5), and the realm as a whole, one method each. */
public final class JudgeBoundsTest {
    public static void main(String[] args) {
        wayAtFirst();
        asTheCodeTells();
        stretches();
        stretchesNoOther();
        resists();
        mixes();
        judgedByTheWayOfThatTime();
        anyTellingIsAVerdict();
        reversedIfNotAsByNow();
        reversedEachTime();
        alikeWithVerdicts();
        alikeOfTheSame();
        uniformityOfPairs();
        worthOfATelling();
        worthIsCutForItself();
        worthOfNoShare();
        gainOfAClass();
        gainOfTwoDays();
        againstTheCustom();
        verdictsAreCounted();
        soundAtTheBounds();
        digestAtTheBounds();
        Checks.end();
    }

    /**
     * For a CASE of the CLASS 0 without FACTS, of that MATTER: the CODE tells that (-1 GAP, -2 CLASH, -3 CIRCLE), and
     * the CUSTOM that; each JUDGE has the WAY of his number.
     */
    private static OnecodeChancery telling(int matter, int code, int custom) {
        OnecodeChancery x = new OnecodeChancery();
        if (custom != -1) {
            x.rule(0, matter, 15, 0, 0, Math.max(custom, 0), 1);
        }
        if (custom == -2) {
            x.rule(0, matter, 15, 0, 0, 1, 1);
        }
        if (code != -1) {
            Checks.enact(x, "m" + matter + "c0=" + Math.max(code, 0));
        }
        if (code == -2) {
            Checks.enact(x, "m" + matter + "c0=1");
        }
        if (code == -3) {
            Checks.enact(x, "m" + matter + "c0=@0x0");
        }
        x.pass(30);
        for (int judge = 0; judge < 4; judge++) {
            x.way(judge, judge);
        }
        x.dispute(0, 1, 0, matter, 0, 100, 0);
        Checks.same("the CODE", x.ofCase(0, 10), code);
        Checks.same("the CUSTOM", x.ofCase(0, 9), custom);
        return x;
    }

    private static void verdict(int judge, int code, int custom, int due) {
        OnecodeChancery x = telling((code + custom + 8) % 4, code, custom);
        Checks.same("would be, CODE " + code + ", CUSTOM " + custom, x.wouldJudge(0, judge), due);
        Checks.same("without a VERDICT", x.ofCase(0, 13), -1);
        Checks.same("is, CODE " + code + ", CUSTOM " + custom, x.judge(0, judge), due);
        Checks.same("its VERDICT", x.ofCase(0, 13), due);
        Checks.same("its JUDGE", x.ofCase(0, 12), judge);
    }

    private static void wayAtFirst() {
        Checks.sentence("JUDGES 0 to 3, each with a WAY (0 at first)");
        OnecodeChancery x = new OnecodeChancery();
        for (int judge = 0; judge < 4; judge++) {
            int before = 0;
            for (int way : new int[] {3, 2, 1, 0, judge}) {
                Checks.same("WAY before", x.way(judge, way), before);
                before = way;
            }
        }
        for (int judge = 0; judge < 4; judge++) {
            Checks.same("each his own", x.way(judge, 0), judge);
        }
    }

    private static void asTheCodeTells() {
        Checks.sentence("0 as the CODE tells");
        for (int code : new int[] {-3, -2, -1, 0, 50, 100}) {
            for (int custom : new int[] {-2, -1, 0, 77}) {
                verdict(0, code, custom, code);
            }
        }
    }

    private static void stretches() {
        Checks.sentence("STRETCHES: a SHARE above 50 is 10 more (100 at most), one below 50 is 10 less (0 at least)");
        for (int code = 0; code <= 100; code++) {
            int due = code == 50 ? 50 : code > 90 ? 100 : code > 50 ? code + 10 : code < 10 ? 0 : code - 10;
            verdict(1, code, 33, due);
        }
    }

    private static void stretchesNoOther() {
        Checks.sentence("STRETCHES: a TELLING that is no SHARE as the CODE tells");
        for (int code = -3; code < 0; code++) {
            verdict(1, code, 80, code);
            verdict(1, code, -1, code);
        }
    }

    private static void resists() {
        Checks.sentence("RESISTS: as the CUSTOM tells (by the TIE), if that is a SHARE, otherwise as the CODE");
        for (int code : new int[] {-3, -2, -1, 0, 60, 100}) {
            for (int custom : new int[] {0, 1, 40, 100}) {
                verdict(2, code, custom, custom);
            }
            verdict(2, code, -1, code);
            verdict(2, code, -2, code);
        }
        OnecodeChancery x = telling(2, 60, 40);
        x.tie(2, 1);
        Checks.same("by the TIE", x.wouldJudge(0, 2), 60);
        x.rule(1, 2, 15, 0, 0, 20, 1);
        Checks.same("of the defendant", x.wouldJudge(0, 2), 20);
        OnecodeChancery y = telling(2, 60, 40);
        y.pass(1);
        y.rule(0, 2, 15, 0, 0, 90, 5);
        Checks.same("as of the DAY of the act", y.wouldJudge(0, 2), 40);
        Checks.same("MIXES as of that DAY too", y.wouldJudge(0, 3), 50);
    }

    private static void mixes() {
        Checks.sentence("MIXES: half of the sum of both, if both are SHARES, otherwise as the CODE");
        int[][] both = {{0, 0, 0}, {0, 1, 0}, {1, 0, 0}, {1, 1, 1}, {1, 2, 1}, {50, 51, 50}, {0, 100, 50}, {100, 0, 50},
            {99, 100, 99}, {100, 100, 100}, {60, 40, 50}};
        for (int[] b : both) {
            verdict(3, b[0], b[1], b[2]);
        }
        for (int code : new int[] {-3, -2, -1}) {
            verdict(3, code, 50, code);
            verdict(3, code, -1, code);
        }
        for (int code : new int[] {0, 7, 100}) {
            verdict(3, code, -1, code);
            verdict(3, code, -2, code);
        }
        OnecodeChancery x = telling(1, 60, 40);
        x.tie(1, 1);
        Checks.same("by the TIE", x.wouldJudge(0, 3), 60);
    }

    private static void judgedByTheWayOfThatTime() {
        Checks.sentence("a VERDICT of a CASE is what its JUDGE tells as it is judged (once)");
        OnecodeChancery x = telling(0, 60, 40);
        x.way(0, 2);
        Checks.same("VERDICT", x.judge(0, 0), 40);
        x.way(0, 1);
        x.rule(0, 0, 15, 0, 0, 10, 5);
        x.tie(0, 1);
        Checks.same("it stays", x.ofCase(0, 13), 40);
        Checks.refuses("a second one", Checks.STATE, () -> x.judge(0, 1));
        Checks.same("its JUDGE stays", x.ofCase(0, 12), 0);
        Checks.same("what it would be", x.wouldJudge(0, 0), 70);
    }

    private static void anyTellingIsAVerdict() {
        Checks.sentence("a TELLING that is no SHARE is a VERDICT, too");
        for (int code = -3; code <= -1; code++) {
            OnecodeChancery x = telling(3, code, -1);
            Checks.same("VERDICTS", x.realm(9), 0);
            Checks.same("VERDICT", x.judge(0, 0), code);
            Checks.same("VERDICTS", x.realm(9), 1);
            Checks.refuses("once", Checks.STATE, () -> x.judge(0, 0));
            Checks.same("it is sound", x.isSound(), true);
            x.dispute(0, 1, 0, 3, 0, 7, 0);
            x.judge(1, 1);
            Checks.same("ALIKE with the same", x.uniformity(), 1.0);
        }
    }

    private static void reversedIfNotAsByNow() {
        Checks.sentence("a VERDICT that is not what the CODE tells by now (as of the DAY of the act) is REVERSED");
        int[] codes = {-3, -2, -1, 0, 60};
        for (int code : codes) {
            OnecodeChancery x = telling(0, code, 40);
            x.judge(0, 2);
            Checks.same("REVERSED at first", x.realm(10), 0);
            Checks.same("VERDICT then", x.appeal(0), code);
            Checks.same("REVERSED", x.realm(10), 1);
            Checks.same("it becomes that", x.ofCase(0, 13), code);
            Checks.same("its JUDGE stays", x.ofCase(0, 12), 2);
            Checks.same("once more", x.appeal(0), code);
            Checks.same("not REVERSED", x.realm(10), 1);
        }
        OnecodeChancery x = telling(0, 60, 40);
        x.judge(0, 0);
        Checks.enact(x, "m0c0=61");
        Checks.strike(x, 0);
        x.pass(30);
        Checks.same("the law of this DAY has no say", x.appeal(0), 60);
        Checks.same("not REVERSED", x.realm(10), 0);
    }

    private static void reversedEachTime() {
        Checks.sentence("REVERSED (counted each time)");
        OnecodeChancery x = new OnecodeChancery();
        Checks.enact(x, "m0c0=%");
        x.rule(0, 0, 15, 0, 0, 40, 1);
        x.rule(1, 0, 15, 0, 0, 30, 1);
        x.pass(30);
        x.dispute(0, 1, 0, 0, 0, 100, 0);
        x.judge(0, 0);
        for (int k = 0; k < 5; k++) {
            Checks.same("as it is", x.appeal(0), k % 2 == 0 ? 40 : 30);
            Checks.same("REVERSED", x.realm(10), k);
            x.tie(0, 1 - k % 2);
            Checks.same("by another TIE", x.appeal(0), k % 2 == 0 ? 30 : 40);
            Checks.same("REVERSED", x.realm(10), k + 1);
        }
    }

    private static void alikeWithVerdicts() {
        Checks.sentence("ALIKE are two CASES that both have a VERDICT");
        OnecodeChancery x = new OnecodeChancery();
        x.rule(0, 0, 15, 0, 0, 40, 1);
        x.way(1, 2);
        for (int k = 0; k < 3; k++) {
            x.dispute(0, 1, 0, 0, 0, k, 0);
        }
        Checks.same("none", x.uniformity(), 1.0);
        x.judge(2, 1);
        Checks.same("one", x.uniformity(), 1.0);
        x.judge(0, 0);
        Checks.same("two", x.uniformity(), 0.0);
        x.judge(1, 0);
        Checks.same("three", x.uniformity(), 1.0 / 3.0);
    }

    private static void alikeOfTheSame() {
        Checks.sentence("ALIKE: of the same MATTER, CLASS and FACTS");
        for (int other = 0; other < 6; other++) {
            OnecodeChancery x = new OnecodeChancery();
            x.rule(0, 0, 15, 0, 0, 40, 1);
            x.pass(3);
            x.way(1, 2);
            x.dispute(0, 0, 0, 0, 0, 0, 0);
            x.dispute(0, other == 3 ? 1 : 0, other == 1 ? 1 : 0, 0, other == 2 ? 32 : 0, other == 4 ? 9 : 0,
                other == 5 ? 3 : 0);
            x.dispute(0, 0, 0, 3, 0, 0, 0);
            x.judge(0, 0);
            x.judge(1, 1);
            Checks.same("what is not the same " + other, x.uniformity(), other == 1 || other == 2 ? 1.0 : 0.0);
            x.judge(2, 0);
            Checks.same("another MATTER", x.uniformity(), other == 1 || other == 2 ? 1.0 : 0.0);
        }
        OnecodeChancery x = new OnecodeChancery();
        x.rule(2, 0, 15, 0, 0, 40, 1);
        x.way(1, 2);
        x.swap(2, 0, 5);
        x.dispute(2, 0, 0, 0, 1, 0, 0);
        x.dispute(2, 0, 0, 0, 32, 0, 0);
        x.dispute(3, 0, 0, 0, 32, 0, 0);
        x.judge(0, 1);
        x.judge(1, 1);
        Checks.same("other FACTS in the words of that PARISH", x.uniformity(), 1.0);
        x.judge(2, 1);
        Checks.same("the same ones in those of another", x.uniformity(), 0.0);
    }

    private static void uniformityOfPairs() {
        Checks.sentence("UNIFORMITY: of all pairs that are ALIKE the part with the same VERDICT (1.0 without such a pair)");
        for (int resisting = 0; resisting <= 24; resisting += 3) {
            OnecodeChancery x = new OnecodeChancery();
            x.rule(0, 0, 15, 0, 0, 40, 1);
            x.way(1, 2);
            for (int k = 0; k < 24; k++) {
                x.dispute(0, k % 6, 0, 0, 5, k, 0);
                x.judge(k, k < resisting ? 1 : 0);
            }
            int same = resisting * (resisting - 1) / 2 + (24 - resisting) * (23 - resisting) / 2;
            Checks.same("of 276 pairs", x.uniformity(), (double) same / 276.0);
        }
        OnecodeChancery x = new OnecodeChancery();
        for (int k = 0; k < 24; k++) {
            x.dispute(0, 0, k % 4, k / 4 % 4, k / 16, 0, 0);
            x.judge(k, 0);
        }
        Checks.same("24 VERDICTS without a pair", x.uniformity(), 1.0);
    }

    private static void worthOfATelling() {
        Checks.sentence("WORTH of a TELLING for a CASE: AMOUNT * SHARE / 100");
        int[][] due = {{0, 100, 0}, {1, 99, 0}, {1, 100, 1}, {99, 1, 0}, {100, 1, 1}, {199, 50, 99}, {999, 0, 0},
            {999, 1, 9}, {999, 99, 989}, {999, 100, 999}};
        for (int[] d : due) {
            OnecodeChancery x = new OnecodeChancery();
            x.rule(0, 0, 15, 0, 0, d[1], 1);
            x.dispute(0, 0, 3, 0, 0, d[0], 0);
            Checks.same(d[1] + " of " + d[0] + " by the CUSTOM", x.gain(3), -d[2]);
            OnecodeChancery y = new OnecodeChancery();
            Checks.enact(y, "m0c3=" + d[1]);
            y.pass(30);
            y.dispute(0, 0, 3, 0, 0, d[0], 0);
            Checks.same(d[1] + " of " + d[0] + " by the CODE", y.gain(3), d[2]);
        }
    }

    private static void worthIsCutForItself() {
        Checks.sentence("GAIN: the WORTH by the CODE, less the WORTH by the CUSTOM (each rounded by itself)");
        int[][] due = {{70, 33, 139 - 65}, {33, 70, 65 - 139}, {1, 0, 1}, {0, 1, -1}, {51, 50, 101 - 99}, {99, 98, 2}};
        for (int[] d : due) {
            OnecodeChancery x = telling(0, d[0], d[1]);
            x.dispute(1, 0, 0, 0, 0, 199, 0);
            x.rule(1, 0, 15, 0, 0, d[1], 1);
            int first = d[0] - d[1];
            Checks.same("CODE " + d[0] + ", CUSTOM " + d[1], x.gain(0) - first, d[2]);
        }
    }

    private static void worthOfNoShare() {
        Checks.sentence("WORTH: 0, if it is no SHARE");
        for (int code = -3; code <= -1; code++) {
            OnecodeChancery x = telling(0, code, 40);
            Checks.same("of the CODE", x.gain(0), -40);
            OnecodeChancery y = telling(0, code, -1);
            Checks.same("of both", y.gain(0), 0);
        }
        Checks.same("of a CLASH of the CUSTOM", telling(0, 70, -2).gain(0), 70);
        Checks.same("of a GAP of the CUSTOM", telling(0, 70, -1).gain(0), 70);
    }

    private static void gainOfAClass() {
        Checks.sentence("GAIN of a CLASS: of all its CASES the WORTH by the CODE less that by the CUSTOM");
        OnecodeChancery x = new OnecodeChancery();
        Checks.enact(x, "m0c0123=100");
        x.pass(30);
        int[] due = new int[4];
        for (int k = 0; k < 24; k++) {
            x.dispute(0, 0, k % 4, 0, 0, 976 + k, 0);
            due[k % 4] += 976 + k;
            for (int rank = 0; rank < 4; rank++) {
                Checks.same("GAIN of " + rank, x.gain(rank), due[rank]);
            }
        }
        x.rule(0, 0, 15, 0, 0, 100, 1);
        for (int rank = 0; rank < 4; rank++) {
            Checks.same("less as much", x.gain(rank), 0);
        }
    }

    private static void gainOfTwoDays() {
        Checks.sentence("GAIN: as if the act was on this DAY, less the WORTH by the CUSTOM as of the DAY of the act");
        OnecodeChancery x = new OnecodeChancery();
        x.rule(0, 0, 15, 0, 0, 10, 1);
        x.rule(1, 0, 15, 0, 0, 20, 1);
        x.dispute(0, 1, 0, 0, 0, 100, 0);
        Checks.enact(x, "m0c0=%");
        x.pass(1);
        x.rule(0, 0, 15, 0, 0, 50, 2);
        x.rule(1, 0, 15, 0, 0, 70, 2);
        Checks.same("the CODE is silent", x.gain(0), -10);
        x.pass(28);
        Checks.same("the DAY ahead", x.gain(0), -10);
        x.pass(1);
        Checks.same("the CUSTOM of this DAY less that of the act's", x.gain(0), 50 - 10);
        x.tie(0, 1);
        Checks.same("by the TIE", x.gain(0), 70 - 20);
        x.tie(0, 2);
        Checks.same("by the milder one", x.gain(0), 50 - 10);
    }

    private static void againstTheCustom() {
        Checks.sentence("CASES whose TELLING by the CODE is not that of the CUSTOM (by the TIE)");
        for (int code = -3; code <= 1; code++) {
            for (int custom = -2; custom <= 1; custom++) {
                OnecodeChancery x = telling(0, code, custom);
                Checks.same("CODE " + code + ", CUSTOM " + custom, x.realm(11), code == custom ? 0 : 1);
            }
        }
        OnecodeChancery x = new OnecodeChancery();
        Checks.enact(x, "m0c0=9");
        x.pass(30);
        for (int k = 0; k < 24; k++) {
            x.dispute(0, 1, k % 2, 0, 0, 0, 0);
        }
        Checks.same("twelve", x.realm(11), 12);
        x.rule(1, 0, 15, 0, 0, 9, 1);
        Checks.same("the defendant's has no say", x.realm(11), 12);
        x.tie(0, 1);
        Checks.same("by the TIE the other twelve", x.realm(11), 12);
        Checks.enact(x, "m0c0=8");
        x.pass(30);
        Checks.same("by the CODE as of the DAY of the act", x.realm(11), 12);
        x.rule(1, 0, 15, 0, 0, 8, 5);
        Checks.same("by the CUSTOM as of the DAY of the act", x.realm(11), 12);
    }

    private static void verdictsAreCounted() {
        Checks.sentence("realm: 9 VERDICTS, 10 REVERSED ever");
        OnecodeChancery x = new OnecodeChancery();
        x.rule(0, 0, 15, 0, 0, 40, 1);
        x.way(1, 2);
        for (int k = 0; k < 24; k++) {
            x.dispute(0, 0, 0, 0, 0, 0, 0);
            Checks.same("VERDICTS", x.realm(9), k);
            x.judge(k, k % 2);
        }
        Checks.same("VERDICTS", x.realm(9), 24);
        for (int k = 0; k < 24; k++) {
            Checks.same("APPEAL", x.appeal(k), -1);
            Checks.same("REVERSED", x.realm(10), (k + 1) / 2);
        }
        Checks.same("VERDICTS stay", x.realm(9), 24);
    }

    private static void soundAtTheBounds() {
        Checks.sentence("isSound: VERDICTS are -3 to 100; ends are 30 or more; nothing that is LOST is IN FORCE");
        Checks.same("a new one", new OnecodeChancery().isSound(), true);
        for (int code : new int[] {-3, -2, -1, 0, 100}) {
            OnecodeChancery x = telling(0, code, -1);
            x.judge(0, 1);
            Checks.same("with a VERDICT by " + code, x.isSound(), true);
        }
        OnecodeChancery x = new OnecodeChancery();
        Checks.enact(x, "m0c0=1");
        Checks.strike(x, 0);
        Checks.same("its end", x.ofArticle(0, 10), 30);
        Checks.same("with an end of 30", x.isSound(), true);
        Checks.lose(x, "m0c0=1x0");
        x.pledge(0, Checks.write(x, "m0c0=1x0"));
        Checks.passTo(x, 3000);
        Checks.same("on the last DAY", x.isSound(), true);
        Checks.same("a small one with everything", Sample.realm().isSound(), true);
    }

    private static void digestAtTheBounds() {
        Checks.sentence("digest: for each v in this order");
        Checks.same("of a new one", new OnecodeChancery().digest(), WholeTest.digestOf(new OnecodeChancery()));
        OnecodeChancery[] realms = {Sample.realm(), Sample.realmOfBills(24), telling(0, -3, -2), halfUniform(),
            fullOfRulesAndCases()};
        for (int k = 0; k < realms.length; k++) {
            Checks.same("digest() of " + k, realms[k].digest(), WholeTest.digestOf(realms[k]));
            realms[k].call();
            Checks.same("digest() of " + k + ", one more REFUSED", realms[k].digest(), WholeTest.digestOf(realms[k]));
        }
    }

    /** Of three pairs one has the same VERDICT: 64 times that is no whole number. */
    private static OnecodeChancery halfUniform() {
        OnecodeChancery x = telling(0, 60, 40);
        x.judge(0, 0);
        for (int k = 1; k < 3; k++) {
            x.dispute(0, 1, 0, 0, 0, 50, 0);
            x.judge(k, 2);
        }
        Checks.same("UNIFORMITY", x.uniformity(), 1.0 / 3.0);
        return x;
    }

    /** The CUSTOM of the PARISH 0 alone tells, by the AMOUNT and the CLASS, and the CODE leaves it to that. */
    private static OnecodeChancery fullOfRulesAndCases() {
        OnecodeChancery x = new OnecodeChancery();
        for (int matter = 0; matter < 4; matter++) {
            Checks.enact(x, "m" + matter + "c0123=%");
        }
        x.pass(30);
        for (int k = 0; k < 40; k++) {
            x.rule(k < 30 ? 0 : k % 6, k % 4, 1 << k / 4 % 4, k, 0, 2 * k, 1 + k % 5);
        }
        x.limit(0, 100, 100);
        Checks.same("held of the AMOUNT 100 alone", x.held(0, 0, 0, 100, 0), 0);
        Checks.same("not of more", x.held(0, 0, 0, 101, 0), -1);
        for (int k = 0; k < 24; k++) {
            x.dispute(k % 2, k % 6, k % 4, k / 4 % 4, k, 40 * k, k);
        }
        x.people(0, 35);
        return x;
    }
}
