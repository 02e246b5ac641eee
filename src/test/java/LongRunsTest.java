/**
 * Long runs, each of 512 calls on one object: a realm that is filled up, or one call over and over. Each answer is that
 * of the plain realm, or is counted by hand, up to the 512th.
 */
public final class LongRunsTest {
    private static final int CALLS = 512;
    private static final String WRITTEN = "m0c0=1";

    private final OnecodeChancery x = new OnecodeChancery();
    private final PlainRealm plain = new PlainRealm();
    private final int run;
    private int calls;

    private LongRunsTest(int run) {
        this.run = run;
    }

    public static void main(String[] args) {
        Checks.sentence("an object is used for at most 512 calls (a realm that is full)");
        for (int run = 0; run < 60; run++) {
            new LongRunsTest(run).fillUp();
        }
        callsOfTheClerk();
        daysOneByOne();
        signsAndTexts();
        amendedOverAndOver();
        pledgedAndVoted();
        reversedOverAndOver();
        swappedOverAndOver();
        refusedOverAndOver();
        digestsOverAndOver();
        Checks.end();
    }

    private void due(String what, Object got, Object want) {
        calls++;
        Checks.same("run " + run + ", call " + calls + ", " + what, got, want);
    }

    /** Another number of 0 to count - 1 for each run and call. */
    private int pick(int count) {
        long mixed = (run * 1000003L + calls * 7919L + 17) * 6364136223846793005L;
        return (int) ((mixed >>> 40) % count);
    }

    // ---- a realm that is full

    private void fillUp() {
        setMoods();
        for (int k = 0; k < 24; k++) {
            writeArticle(k);
            if (pick(3) == 0) {
                passDays(pick(2) == 0 ? 30 : 1 + pick(12));
            }
        }
        for (int k = 0; k < 40; k++) {
            swear(k);
        }
        passDays(30);
        for (int k = 0; k < 24; k++) {
            tellCase();
        }
        int judged = 1 + pick(20);
        for (int k = 0; k < judged; k++) {
            int dispute = k;
            int judge = pick(4);
            due("judge", x.judge(dispute, judge), plain.judge(dispute, judge));
        }
        repealSome();
        while (calls < CALLS - 1) {
            ask();
        }
        due("digest", x.digest(), plain.digest());
        Checks.same("calls of the run " + run, calls, CALLS);
    }

    private void setMoods() {
        for (int faction = 0; faction < 4; faction++) {
            due("mood", x.mood(faction, 0, 5), 0);
            plain.moods[faction][0] = 5;
        }
        int judge = pick(4);
        int way = pick(4);
        due("way", x.way(judge, way), 0);
        plain.ways[judge] = way;
        int tie = pick(3);
        due("tie", x.tie(0, tie), 0);
        plain.ties[0] = tie;
    }

    private String text(int number) {
        StringBuilder text = new StringBuilder("m0c").append(pick(3) == 0 ? "01" : "0");
        int kind = pick(6);
        if (kind < 2) {
            text.append(kind == 0 ? '+' : '-').append(number % 3);
        }
        int outcome = pick(5);
        boolean isFirst = number == 0;
        text.append('=').append(isFirst || outcome < 2 ? String.valueOf(7 * outcome)
            : outcome == 2 ? "%" : "@" + (outcome == 3 ? number - 1 : number / 2));
        if (!isFirst && number % 4 != 0) {
            text.append('x').append(kind > 3 ? number - 1 : number / 3);
        }
        return text.toString();
    }

    private void writeArticle(int number) {
        String text = text(number);
        for (int k = 0; k < text.length(); k++) {
            plain.fed.append(text.charAt(k));
            due("feed", x.feed(text.charAt(k)), k + 1);
        }
        due("write " + text, x.write(), plain.write());
        if (pick(12) != 0) {
            due("vote", x.vote(number), plain.vote(number));
        }
    }

    private void passDays(int days) {
        plain.day += days;
        due("pass", x.pass(days), plain.day);
    }

    private void swear(int number) {
        int parish = pick(3);
        int needs = pick(4) == 0 ? 1 << pick(3) : 0;
        int bars = pick(4) == 0 ? 8 << pick(3) : 0;
        int share = pick(2) * 7;
        plain.rules.add(new PlainRealm.Sworn(parish, 0, 15, needs, bars, share, 1 + number % 5, plain.day));
        plain.ranges.add(new int[] {0, 999});
        due("rule", x.rule(parish, 0, 15, needs, bars, share, 1 + number % 5), number);
    }

    private void tellCase() {
        int plaintiff = pick(3);
        int rank = pick(8) / 5;
        int facts = pick(8);
        int amount = 100 * pick(10) + 99;
        int ago = pick(2) == 0 ? 0 : pick(plain.day + 1);
        plain.acts.add(new PlainRealm.Act(plaintiff, 1, rank, 0, facts, amount, plain.day - ago));
        due("dispute", x.dispute(plaintiff, 1, rank, 0, facts, amount, ago), plain.acts.size() - 1);
    }

    /** What is liked by no one is REPEALED; then the moods are as they were, and 30 DAYS go by. */
    private void repealSome() {
        for (int faction = 0; faction < 4; faction++) {
            due("mood", x.mood(faction, 0, -5), plain.moods[faction][0]);
            plain.moods[faction][0] = -5;
        }
        for (int k = 0; k < 2; k++) {
            int article = pick(24);
            if (plain.states.get(article) == 1) {
                due("repeal", x.repeal(article), plain.repeal(article));
            }
        }
        passDays(pick(2) == 0 ? 29 : 30);
    }

    private void ask() {
        int dispute = pick(24);
        int article = (dispute + calls) % 24;
        int what = (dispute + calls) % 14;
        switch (calls % 8) {
            case 0: case 1:
                due("tells", x.tells(dispute, article),
                    plain.tells(article, plain.acts.get(dispute), -1, java.util.Set.of()));
                break;
            case 2: case 3:
                due("without", x.without(dispute, article), plain.code(plain.acts.get(dispute), article));
                break;
            case 4:
                due("ofCase " + what, x.ofCase(dispute, what), plain.ofCase(dispute, what));
                break;
            case 5:
                due("realm " + what, x.realm(what), plain.realm(what));
                break;
            case 6:
                due("wouldJudge", x.wouldJudge(dispute, what % 4), plain.wouldJudge(dispute, what % 4));
                break;
            default:
                askDearly(article, what);
                break;
        }
    }

    private void askDearly(int article, int what) {
        switch (pick(4)) {
            case 0:
                due("isDead", x.isDead(article, what % 4), plain.isDead(article, what % 4));
                break;
            case 1:
                due("grid", x.grid(0, what % 4, what % 7), plain.grid(0, what % 4, what % 7));
                break;
            case 2:
                due("gain", x.gain(what % 2), plain.gain(what % 2));
                break;
            default:
                due("held", x.held(0, 0, article, 5, what % 4), plain.held(0, 0, article, 5, what % 4));
                break;
        }
    }

    // ---- one call over and over

    private static void callsOfTheClerk() {
        Checks.sentence("call: how many were REFUSED ever, with this");
        OnecodeChancery x = new OnecodeChancery();
        for (int k = 1; k < CALLS; k++) {
            Checks.same("call", x.call(), k);
        }
        Checks.same("the 512th, realm(13)", x.realm(13), CALLS - 1);
    }

    private static void daysOneByOne() {
        Checks.sentence("DAY: 3000 at most");
        OnecodeChancery x = new OnecodeChancery();
        int day = 0;
        for (int k = 1; k < CALLS; k++) {
            int days = 1 + k % 12;
            if (day + days > 3000) {
                Checks.refuses("pass beyond 3000", Checks.STATE, () -> x.pass(days));
            } else {
                day += days;
                Checks.same("pass", x.pass(days), day);
            }
        }
        Checks.same("the 512th, realm(0)", x.realm(0), day);
        Checks.same("a long time", day > 2988, true);
    }

    private static void signsAndTexts() {
        Checks.sentence("write: its number; NONE, if it is no ARTICLE (the TEXT is empty then)");
        OnecodeChancery x = new OnecodeChancery();
        int calls = 0;
        int written = 0;
        for (int round = 0; round < 23; round++) {
            int length = round % 2 == 0 ? WRITTEN.length() : WRITTEN.length() - 1;
            for (int k = 0; k < length; k++) {
                Checks.same("feed", x.feed(WRITTEN.charAt(k)), k + 1);
            }
            Checks.same("write in round " + round, x.write(), length == WRITTEN.length() ? written++ : -1);
            calls += length + 1;
        }
        for (; calls < CALLS - 1; calls++) {
            Checks.same("write of nothing", x.write(), -1);
        }
        Checks.same("the 512th, realm(3)", x.realm(3), 12);
    }

    private static void amendedOverAndOver() {
        Checks.sentence("amend: the TEXT that is fed takes its place (time and again)");
        OnecodeChancery x = new OnecodeChancery();
        int calls = 0;
        for (int k = 0; k < 2; k++) {
            Checks.same("write", Checks.write(x, WRITTEN), k);
            calls += WRITTEN.length() + 1;
        }
        for (int round = 0; calls + 11 < CALLS; round++) {
            String text = "m" + round % 4 + "c0=" + round % 10 + (round % 3 == 0 ? "x0" : "");
            Checks.feed(x, text);
            Checks.same("AMENDED by " + text, x.amend(1), true);
            Checks.same("its TEXT", x.text(1), text);
            Checks.same("EXCEPTIONS to the first", x.ofArticle(0, 12), round % 3 == 0 ? 1 : 0);
            calls += text.length() + 3;
        }
        for (; calls < CALLS - 1; calls++) {
            Checks.same("AMENDED by nothing", x.amend(1), false);
        }
        Checks.same("the 512th, the first one", x.text(0), WRITTEN);
    }

    private static void pledgedAndVoted() {
        Checks.sentence("behind the vote on that it is free again, and its MOOD to that MATTER is 1 less, -5 at least");
        OnecodeChancery x = new OnecodeChancery();
        int calls = 0;
        for (int k = 0; k < 24; k++) {
            Checks.write(x, WRITTEN);
            Checks.same("FACTIONS that are PLEDGED", x.pledge(k % 4, k), 1);
            int mood = -(k / 4);
            Checks.same("its MOOD ahead", x.ofFaction(k % 4, 0), mood);
            Checks.same("for it less against it", x.wouldVote(k, 2, false), 5 * pledgedBalance(k));
            Checks.same("vote", x.vote(k), pledgedBalance(k) > 0 ? 3 : 0);
            Checks.same("its MOOD behind", x.ofFaction(k % 4, 0), Math.max(mood - 1, -5));
            calls += WRITTEN.length() + 6;
        }
        for (; calls < CALLS - 1; calls++) {
            Checks.same("free", x.ofFaction(calls % 4, 5), -1);
        }
        Checks.same("the 512th, voted for", x.realm(5), 1);
    }

    /** With the BILL k one FACTION is for it; those whose MOOD is below 0 by then, are against it. */
    private static int pledgedBalance(int k) {
        int against = 0;
        for (int faction = 0; faction < 4; faction++) {
            boolean hasBeenPledged = k > faction;
            against += faction != k % 4 && hasBeenPledged ? 1 : 0;
        }
        return 1 - against;
    }

    private static void reversedOverAndOver() {
        Checks.sentence("REVERSED: it becomes that (counted each time)");
        OnecodeChancery x = new OnecodeChancery();
        Checks.enact(x, "m0c0=%");
        x.rule(0, 0, 15, 0, 0, 60, 1);
        x.rule(1, 0, 15, 0, 0, 60, 1);
        x.rule(1, 0, 15, 1, 0, 30, 1);
        x.pass(30);
        x.dispute(0, 1, 0, 0, 1, 100, 0);
        Checks.same("CASE by a CUSTOM that was SWORN ahead", x.judge(0, 0), 60);
        int calls = 27;
        int reversed = 0;
        int verdict = 60;
        for (int round = 1; calls + 2 < CALLS; round++) {
            int tie = round * round % 3;
            x.tie(0, tie);
            int told = tie == 0 ? 60 : 30;
            reversed += told == verdict ? 0 : 1;
            verdict = told;
            Checks.same("appeal by the TIE " + tie, x.appeal(0), told);
            calls += 2;
        }
        Checks.same("the last, REVERSED ever", x.realm(10), reversed);
    }

    private static void swappedOverAndOver() {
        Checks.sentence("a WORDING: always all six, each once");
        OnecodeChancery x = new OnecodeChancery();
        int[] words = {0, 1, 2, 3, 4, 5};
        for (int k = 1; k < CALLS; k++) {
            int one = k * 5 % 6;
            int two = k * k % 6;
            int first = words[one];
            words[one] = words[two];
            words[two] = first;
            Checks.same("swap", x.swap(3, one, two), words[one]);
        }
        Checks.same("the 512th, isSound()", x.isSound(), true);
        for (int word = 0; word < 6; word++) {
            Checks.same("what the word is really", x.means(3, word), words[word]);
        }
    }

    private static void refusedOverAndOver() {
        Checks.sentence("a method that throws an exception changes nothing (time and again)");
        OnecodeChancery x = Sample.realm();
        String seen = Sample.seen(x);
        for (int k = 0; k < 64; k++) {
            int wrong = k % 2 == 0 ? -1 - k : 60 + k;
            Checks.refuses("judge", Checks.INDEX, () -> x.judge(wrong, 0));
            Checks.refuses("rule", Checks.ARGUMENT, () -> x.rule(0, 0, wrong, 0, 0, 0, 1));
            Checks.refuses("pledge", Checks.STATE, () -> x.pledge(0, Sample.LOST));
            Checks.refuses("pass", Checks.ARGUMENT, () -> x.pass(wrong * 401));
        }
        Checks.same("what is seen", Sample.seen(x), seen);
    }

    private static void digestsOverAndOver() {
        Checks.sentence("digest (nothing is changed)");
        OnecodeChancery x = Sample.realm();
        long first = x.digest();
        for (int k = 0; k < 300; k++) {
            Checks.same("digest", x.digest(), first);
        }
    }
}
