import java.util.List;

/** Each "Throws IllegalStateException" line by itself: one step ahead of it, at it, and nothing changed behind it. */
public final class StateRefusalsTest {
    private interface Asked {
        Object of(OnecodeChancery x);
    }

    public static void main(String[] args) {
        fortyRules();
        twentyFourCases();
        sixtySigns();
        twentyFourArticles();
        amendNoBillAnyMore();
        pledgeNoBillAnyMore();
        pledgedForAnyBill();
        voteOnNoBillAnyMore();
        repealOfWhatWasNotVotedFor();
        judgedOnce();
        appealWithoutVerdict();
        dayAbove3000();
        factsInBoth();
        mostBelowLeast();
        Checks.end();
    }

    /** A refused call, and that nothing is seen behind it. */
    private static void late(String what, Class<?> due, OnecodeChancery x, Asked call) {
        String before = Sample.seen(x);
        Checks.refuses(what, due, () -> call.of(x));
        Checks.same("what is seen behind it: " + what, Sample.seen(x), before);
    }

    private static void fortyRules() {
        Checks.sentence("rule: throws IllegalStateException if there are 40");
        OnecodeChancery x = new OnecodeChancery();
        for (int k = 0; k < 40; k++) {
            Checks.same("the RULE " + k, x.rule(5, 3, 8, 1, 2, 100, 5), k);
        }
        late("a RULE more", Checks.STATE, x, y -> y.rule(0, 0, 1, 0, 0, 0, 1));
        late("a RULE more, once more", Checks.STATE, x, y -> y.rule(5, 3, 15, 63, 0, 100, 5));
        Checks.same("the RULE 39 is there", x.ofRule(39, 5), 100);
        Checks.same("its limit", x.limit(39, 999, 999), 25);
        Checks.refuses("the RULE 40 is not", Checks.INDEX, () -> x.ofRule(40, 5));
        Checks.refuses("nor its limit", Checks.INDEX, () -> x.limit(40, 0, 0));
        Checks.sentence("rule: the exception that is named first is thrown, when there are 40");
        late("a wrong PARISH", Checks.INDEX, x, y -> y.rule(6, 0, 1, 0, 0, 0, 1));
        late("a wrong MATTER", Checks.INDEX, x, y -> y.rule(0, 4, 1, 0, 0, 0, 1));
        int[][] wrong = {{0, 0, 0, 0, 1}, {16, 0, 0, 0, 1}, {1, 64, 0, 0, 1}, {1, 0, 64, 0, 1}, {1, 4, 4, 0, 1},
            {1, 0, 0, 101, 1}, {1, 0, 0, 0, 0}, {1, 0, 0, 0, 6}};
        for (int[] w : wrong) {
            late("a wrong value " + java.util.Arrays.toString(w), Checks.ARGUMENT, x,
                y -> y.rule(0, 0, w[0], w[1], w[2], w[3], w[4]));
        }
    }

    private static void twentyFourCases() {
        Checks.sentence("dispute: throws IllegalStateException if there are 24");
        OnecodeChancery x = new OnecodeChancery();
        x.pass(2);
        for (int k = 0; k < 24; k++) {
            Checks.same("the CASE " + k, x.dispute(0, 5, 3, 3, 63, 999, 2), k);
        }
        late("a CASE more", Checks.STATE, x, y -> y.dispute(0, 0, 0, 0, 0, 0, 0));
        late("a CASE more, once more", Checks.STATE, x, y -> y.dispute(5, 5, 3, 3, 63, 999, 2));
        Checks.same("the CASE 23 is there", x.ofCase(23, 5), 999);
        Checks.same("it is judged", x.judge(23, 0), -1);
        Checks.refuses("the CASE 24 is not", Checks.INDEX, () -> x.ofCase(24, 5));
        Checks.refuses("nor judged", Checks.INDEX, () -> x.judge(24, 0));
        Checks.sentence("dispute: the exception that is named first is thrown, when there are 24");
        int[][] numbers = {{6, 0, 0, 0}, {0, 6, 0, 0}, {0, 0, 4, 0}, {0, 0, 0, 4}};
        for (int[] n : numbers) {
            late("a wrong number " + java.util.Arrays.toString(n), Checks.INDEX, x,
                y -> y.dispute(n[0], n[1], n[2], n[3], 0, 0, 0));
        }
        int[][] values = {{64, 0, 0}, {-1, 0, 0}, {0, 1000, 0}, {0, -1, 0}, {0, 0, 3}, {0, 0, -1}};
        for (int[] v : values) {
            late("a wrong value " + java.util.Arrays.toString(v), Checks.ARGUMENT, x,
                y -> y.dispute(0, 0, 0, 0, v[0], v[1], v[2]));
        }
    }

    private static void sixtySigns() {
        Checks.sentence("feed: throws IllegalStateException if there are 60");
        OnecodeChancery x = new OnecodeChancery();
        String text = "m3c0123" + " ".repeat(49) + "=100";
        for (int k = 0; k < 60; k++) {
            Checks.same("the sign " + k, x.feed(text.charAt(k)), k + 1);
        }
        for (int sign : new int[] {32, 48, 97, 126}) {
            late("the sign " + sign + " more", Checks.STATE, x, y -> y.feed(sign));
        }
        Checks.sentence("feed: the exception that is named first is thrown, when there are 60");
        for (int sign : new int[] {31, 127, -1, Integer.MAX_VALUE, Integer.MIN_VALUE}) {
            late("no sign, " + sign, Checks.ARGUMENT, x, y -> y.feed(sign));
        }
        Checks.sentence("feed: behind what is refused the TEXT is what it was");
        Checks.same("write()", x.write(), 0);
        Checks.same("text(0)", x.text(0), "m3c0123=100");
        Checks.same("a sign for the next TEXT", x.feed(109), 1);
    }

    private static void twentyFourArticles() {
        Checks.sentence("write: throws IllegalStateException if there are 24");
        OnecodeChancery x = new OnecodeChancery();
        for (int k = 0; k < 23; k++) {
            Checks.write(x, "m0c0=" + k);
        }
        Checks.same("the last one", Checks.write(x, "m0c3=@22x22"), 23);
        late("an empty TEXT", Checks.STATE, x, OnecodeChancery::write);
        Checks.feed(x, "m2");
        late("what is no ARTICLE", Checks.STATE, x, OnecodeChancery::write);
        Checks.feed(x, "c1=9");
        late("what is one", Checks.STATE, x, OnecodeChancery::write);
        Checks.same("what is one takes the place of a BILL still", Sample.fedText(x, 23), "m2c1=9");
        Checks.refuses("the ARTICLE 24 is not there", Checks.INDEX, () -> x.text(24));
        Checks.refuses("nor voted on", Checks.INDEX, () -> x.vote(24));
        Checks.same("the ARTICLE 23 is", x.vote(23), 0);
        late("there are 24 still, though one is LOST", Checks.STATE, x, OnecodeChancery::write);
    }

    private static void amendNoBillAnyMore() {
        Checks.sentence("amend: throws IllegalStateException if it is no BILL any more");
        for (int article : new int[] {Sample.VOTED, Sample.REPEALED, Sample.LOST}) {
            OnecodeChancery x = Sample.realm();
            late("amend(" + article + ")", Checks.STATE, x, y -> y.amend(article));
            Checks.same("the TEXT stays", Sample.fedText(x, Sample.BILL), Sample.FED);
            late("amend(" + article + ") by an empty TEXT", Checks.STATE, x, y -> y.amend(article));
            x.pass(60);
            late("amend(" + article + ") later", Checks.STATE, x, y -> y.amend(article));
        }
        for (int article : new int[] {Sample.BILL, Sample.PLEDGED_BILL}) {
            Checks.same("amend(" + article + ")", Sample.realm().amend(article), true);
        }
    }

    private static void pledgeNoBillAnyMore() {
        Checks.sentence("pledge: throws IllegalStateException if it is no BILL any more");
        OnecodeChancery x = Sample.realm();
        for (int article : new int[] {Sample.VOTED, Sample.REPEALED, Sample.LOST}) {
            late("pledge(0, " + article + ")", Checks.STATE, x, y -> y.pledge(0, article));
            late("of one that is PLEDGED", Checks.STATE, x, y -> y.pledge(Sample.PLEDGED_FACTION, article));
        }
        Checks.sentence("pledge: the exception that is named first is thrown, for no BILL and of one that is PLEDGED");
        for (int article : new int[] {Sample.VOTED, Sample.REPEALED, Sample.LOST}) {
            late("of no FACTION", Checks.INDEX, x, y -> y.pledge(4, article));
            late("of no FACTION", Checks.INDEX, x, y -> y.pledge(-1, article));
        }
        late("for no ARTICLE", Checks.INDEX, x, y -> y.pledge(Sample.PLEDGED_FACTION, Sample.ARTICLES));
        late("for no ARTICLE", Checks.INDEX, x, y -> y.pledge(Sample.PLEDGED_FACTION, -1));
        Checks.sentence("pledge: throws IllegalStateException if it is no BILL any more");
        Checks.same("pledge(0, 3)", x.pledge(0, Sample.BILL), 1);
        Checks.same("pledge(2, 4)", x.pledge(2, Sample.PLEDGED_BILL), 2);
    }

    private static void pledgedForAnyBill() {
        Checks.sentence("pledge: throws IllegalStateException if the FACTION is PLEDGED (for any BILL)");
        for (int faction = 0; faction < 4; faction++) {
            pledgedFor(faction, 0, 1);
            pledgedFor(faction, 1, 0);
        }
    }

    private static void pledgedFor(int faction, int bill, int other) {
        OnecodeChancery x = new OnecodeChancery();
        for (int k = 0; k < 3; k++) {
            Checks.write(x, "m0c0=1");
        }
        Checks.same("pledge(" + faction + ", " + bill + ")", x.pledge(faction, bill), 1);
        late("for the same BILL", Checks.STATE, x, y -> y.pledge(faction, bill));
        late("for another BILL", Checks.STATE, x, y -> y.pledge(faction, other));
        Checks.same("another FACTION is free", x.pledge((faction + 1) % 4, other), 1);
        x.vote(other);
        late("behind the vote on another BILL", Checks.STATE, x, y -> y.pledge(faction, 2));
        x.vote(bill);
        Checks.same("behind the vote on that BILL", x.pledge(faction, 2), 1);
    }

    private static void voteOnNoBillAnyMore() {
        Checks.sentence("vote: throws IllegalStateException if it is no BILL any more");
        OnecodeChancery x = Sample.realm();
        for (int article : new int[] {Sample.VOTED, Sample.REPEALED, Sample.LOST}) {
            late("vote(" + article + ")", Checks.STATE, x, y -> y.vote(article));
        }
        x.vote(Sample.BILL);
        late("a second vote", Checks.STATE, x, y -> y.vote(Sample.BILL));
    }

    private static void repealOfWhatWasNotVotedFor() {
        Checks.sentence("repeal: throws IllegalStateException if it was not voted for, or is REPEALED");
        OnecodeChancery x = Sample.realm();
        for (int matter = 0; matter < 4; matter++) {
            for (int faction = 0; faction < 4; faction++) {
                x.mood(faction, matter, -5);
            }
        }
        for (int article : new int[] {Sample.BILL, Sample.PLEDGED_BILL, Sample.LOST, Sample.REPEALED}) {
            late("repeal(" + article + ")", Checks.STATE, x, y -> y.repeal(article));
        }
        x.pass(100);
        late("of what has ended", Checks.STATE, x, y -> y.repeal(Sample.REPEALED));
        Checks.same("of what was voted for", x.repeal(Sample.VOTED), 3);
        late("a second REPEAL", Checks.STATE, x, y -> y.repeal(Sample.VOTED));
    }

    private static void judgedOnce() {
        Checks.sentence("judge: throws IllegalStateException if it has a VERDICT");
        OnecodeChancery x = Sample.realm();
        for (int judge = 0; judge < 4; judge++) {
            int one = judge;
            late("one that is REVERSED", Checks.STATE, x, y -> y.judge(Sample.REVERSED_CASE, one));
            late("one with a GAP", Checks.STATE, x, y -> y.judge(Sample.JUDGED_CASE, one));
        }
        Checks.sentence("judge: the exception that is named first is thrown, with a VERDICT");
        for (int judge : new int[] {-1, 4, Integer.MAX_VALUE}) {
            late("of no JUDGE " + judge, Checks.INDEX, x, y -> y.judge(Sample.JUDGED_CASE, judge));
            late("of no JUDGE " + judge, Checks.INDEX, x, y -> y.judge(Sample.REVERSED_CASE, judge));
        }
        Checks.sentence("judge: throws IllegalStateException if it has a VERDICT");
        Checks.same("one without", x.judge(Sample.OPEN_CASE, 0), -1);
        late("a VERDICT of -1 is one, too", Checks.STATE, x, y -> y.judge(Sample.OPEN_CASE, 0));
        int[] facts = {1, 2, 4};
        int[] verdicts = {-2, -3, 0};
        OnecodeChancery z = tellingAll();
        for (int k = 0; k < 3; k++) {
            int dispute = z.dispute(0, 0, 0, 0, facts[k], 9, 0);
            Checks.same("the VERDICT", z.judge(dispute, 0), verdicts[k]);
            late("a second one", Checks.STATE, z, y -> y.judge(dispute, 1));
            Checks.same("an APPEAL changes nothing of that", z.appeal(dispute), verdicts[k]);
            late("behind an APPEAL", Checks.STATE, z, y -> y.judge(dispute, 1));
        }
    }

    /** With the FACT 0 alone a CLASH, with 1 alone a CIRCLE, with 2 alone 0. */
    private static OnecodeChancery tellingAll() {
        OnecodeChancery x = new OnecodeChancery();
        Checks.enact(x, "m0c0+0=1");
        Checks.enact(x, "m0c0+0=2");
        Checks.enact(x, "m0c0+1=3");
        Checks.enact(x, "m0c0+1=@2x2");
        Checks.enact(x, "m0c0+2=0");
        x.pass(30);
        return x;
    }

    private static void appealWithoutVerdict() {
        Checks.sentence("appeal: throws IllegalStateException if it has no VERDICT");
        OnecodeChancery x = Sample.realm();
        late("one that is open", Checks.STATE, x, y -> y.appeal(Sample.OPEN_CASE));
        late("once more", Checks.STATE, x, y -> y.appeal(Sample.OPEN_CASE));
        Checks.same("one with a GAP", x.appeal(Sample.JUDGED_CASE), -1);
        Checks.same("one that is REVERSED", x.appeal(Sample.REVERSED_CASE), 60);
        x.judge(Sample.OPEN_CASE, 2);
        Checks.same("the open one, judged", x.appeal(Sample.OPEN_CASE), -1);
    }

    private static void dayAbove3000() {
        Checks.sentence("pass: throws IllegalStateException if DAY would be above 3000");
        int[][] steps = {{2999, 1}, {2998, 2}, {2600, 400}, {2601, 399}, {2800, 200}};
        for (int[] step : steps) {
            OnecodeChancery x = new OnecodeChancery();
            Checks.passTo(x, step[0]);
            if (step[1] < 400) {
                late("a DAY too many on " + step[0], Checks.STATE, x, y -> y.pass(step[1] + 1));
                late("400 on " + step[0], Checks.STATE, x, y -> y.pass(400));
            }
            Checks.same("just to 3000 from " + step[0], x.pass(step[1]), 3000);
            for (int days : List.of(1, 2, 399, 400)) {
                late(days + " on 3000", Checks.STATE, x, y -> y.pass(days));
            }
            Checks.sentence("pass: the exception that is named first is thrown, on DAY 3000");
            for (int days : List.of(0, -1, 401, Integer.MAX_VALUE, Integer.MIN_VALUE)) {
                late(days + " on 3000", Checks.ARGUMENT, x, y -> y.pass(days));
            }
            Checks.sentence("pass: throws IllegalStateException if DAY would be above 3000");
        }
    }

    private static void factsInBoth() {
        Checks.sentence("rule: throws IllegalArgumentException if a FACT is in both");
        OnecodeChancery x = Sample.realm();
        for (int needs = 0; needs < 64; needs++) {
            for (int bars = 0; bars < 64; bars++) {
                int need = needs;
                int bar = bars;
                if ((needs & bars) != 0) {
                    Checks.refuses("rule that NEEDS " + needs + " and BARS " + bars, Checks.ARGUMENT,
                        () -> x.rule(0, 0, 1, need, bar, 0, 1));
                } else {
                    Checks.same("rule that NEEDS " + needs + " and BARS " + bars,
                        new OnecodeChancery().rule(0, 0, 1, need, bar, 0, 1), 0);
                }
            }
        }
        Checks.same("what is seen behind them", Sample.seen(x), Sample.seen(Sample.realm()));
        for (int fact = 0; fact < 6; fact++) {
            int both = 1 << fact;
            late("the FACT " + fact, Checks.ARGUMENT, x, y -> y.rule(0, 0, 1, both, both, 0, 1));
        }
    }

    private static void mostBelowLeast() {
        Checks.sentence("limit: throws IllegalArgumentException if most is below least");
        OnecodeChancery x = Sample.realm();
        for (int least : new int[] {1, 2, 500, 998, 999}) {
            late("limit(0, " + least + ", 1 less)", Checks.ARGUMENT, x, y -> y.limit(0, least, least - 1));
            late("limit(0, " + least + ", 0)", Checks.ARGUMENT, x, y -> y.limit(0, least, 0));
        }
        for (int both : new int[] {0, 1, 500, 999}) {
            Checks.same("least and most alike", x.limit(0, both, both), 2);
            Checks.same("the least AMOUNT", x.ofRule(0, 7), both);
            Checks.same("the greatest AMOUNT", x.ofRule(0, 8), both);
        }
    }
}
