/**
 * Each "Throws" line of the document by itself: just inside its bound, just outside it, far off, together with each
 * other line of the same call, and nothing changed behind what is refused.
 */
public final class RefusalsTest {
    private interface Asked {
        Object of(OnecodeChancery x, int... with);
    }

    /** One line: which argument it binds, from where to where, and what is thrown otherwise. */
    private record Bound(int place, int least, int most, Class<?> due, String words) {
    }

    private static final java.util.Set<String> CALLS = new java.util.TreeSet<>();

    public static void main(String[] args) {
        realmCalls();
        houseCalls();
        judgeCalls();
        askedOfRulesAndCases();
        askedOfArticles();
        askedOfTheRealm();
        Checks.sentence("every call with arguments");
        Checks.same("how many calls were looked at", CALLS.size(), 34);
        Checks.end();
    }

    private static Bound number(int place, int count, String words) {
        return new Bound(place, 0, count - 1, Checks.INDEX, words);
    }

    private static Bound value(int place, int least, int most, String words) {
        return new Bound(place, least, most, Checks.ARGUMENT, words);
    }

    private static void realmCalls() {
        look("people", new int[] {0, 50}, (x, w) -> x.people(w[0], w[1]),
            number(0, 6, "parish is not 0 to 5"), value(1, 1, 99, "people is not 1 to 99"));
        look("swap", new int[] {0, 1, 2}, (x, w) -> x.swap(w[0], w[1], w[2]), number(0, 6, "parish is not 0 to 5"),
            value(1, 0, 5, "one is not 0 to 5"), value(2, 0, 5, "two is not 0 to 5"));
        look("tie", new int[] {0, 1}, (x, w) -> x.tie(w[0], w[1]),
            number(0, 4, "matter is not 0 to 3"), value(1, 0, 2, "tie is not 0 to 2"));
        look("rule", new int[] {0, 0, 15, 0, 0, 50, 3},
            (x, w) -> x.rule(w[0], w[1], w[2], w[3], w[4], w[5], w[6]),
            number(0, 6, "parish is not 0 to 5"), number(1, 4, "matter not 0 to 3"),
            value(2, 1, 15, "classes is not 1 to 15"), value(3, 0, 63, "needs not 0 to 63"),
            value(4, 0, 63, "bars not 0 to 63"), value(5, 0, 100, "share not 0 to 100"),
            value(6, 1, 5, "proof not 1 to 5"));
        look("limit", new int[] {0, 0, 999}, (x, w) -> x.limit(w[0], w[1], w[2]),
            number(0, Sample.RULES, "there is no such RULE"), value(1, 0, 999, "least is not 0 to 999"),
            value(2, 0, 999, "most is not 0 to 999"));
        look("limit", new int[] {0, 400, 500}, (x, w) -> x.limit(w[0], w[1], w[2]),
            number(0, Sample.RULES, "there is no such RULE"), value(1, 0, 500, "most below least (least)"),
            value(2, 400, 999, "most below least (most)"));
        look("dispute", new int[] {0, 1, 2, 3, 5, 100, 1},
            (x, w) -> x.dispute(w[0], w[1], w[2], w[3], w[4], w[5], w[6]),
            number(0, 6, "plaintiff is not 0 to 5"), number(1, 6, "defendant is not 0 to 5"),
            number(2, 4, "rank not 0 to 3"), number(3, 4, "matter not 0 to 3"),
            value(4, 0, 63, "facts is not 0 to 63"), value(5, 0, 999, "amount not 0 to 999"),
            value(6, 0, Sample.DAY, "ago not 0 to DAY"));
        look("feed", new int[] {97}, (x, w) -> x.feed(w[0]), value(0, 32, 126, "sign is not 32 to 126"));
        look("amend", new int[] {3}, (x, w) -> x.amend(w[0]), number(0, Sample.ARTICLES, "there is no such ARTICLE"));
    }

    private static void houseCalls() {
        look("seats", new int[] {0, 1, 30}, (x, w) -> x.seats(w[0], w[1], w[2]), number(0, 3, "house is not 0 to 2"),
            number(1, 4, "faction not 0 to 3"), value(2, 0, 60, "seats is not 0 to 60"));
        look("mood", new int[] {0, 1, 2}, (x, w) -> x.mood(w[0], w[1], w[2]), number(0, 4, "faction is not 0 to 3"),
            number(1, 4, "matter not 0 to 3"), value(2, -5, 5, "mood is not -5 to 5"));
        look("taste", new int[] {0, 2}, (x, w) -> x.taste(w[0], w[1]),
            number(0, 4, "faction is not 0 to 3"), value(1, -3, 3, "taste is not -3 to 3"));
        look("pledge", new int[] {0, 3}, (x, w) -> x.pledge(w[0], w[1]),
            number(0, 4, "faction is not 0 to 3"), number(1, Sample.ARTICLES, "there is no such ARTICLE"));
        look("vote", new int[] {3}, (x, w) -> x.vote(w[0]), number(0, Sample.ARTICLES, "there is no such ARTICLE"));
        look("repeal", new int[] {0}, (x, w) -> x.repeal(w[0]), number(0, Sample.ARTICLES, "there is no such ARTICLE"));
    }

    private static void judgeCalls() {
        look("way", new int[] {0, 1}, (x, w) -> x.way(w[0], w[1]),
            number(0, 4, "judge is not 0 to 3"), value(1, 0, 3, "way is not 0 to 3"));
        look("judge", new int[] {1, 0}, (x, w) -> x.judge(w[0], w[1]),
            number(0, Sample.CASES, "there is no such CASE"), number(1, 4, "judge is not 0 to 3"));
        look("appeal", new int[] {0}, (x, w) -> x.appeal(w[0]), number(0, Sample.CASES, "there is no such CASE"));
        look("pass", new int[] {7}, (x, w) -> x.pass(w[0]), value(0, 1, 400, "days is not 1 to 400"));
    }

    private static void askedOfRulesAndCases() {
        look("means", new int[] {0, 1}, (x, w) -> x.means(w[0], w[1]),
            number(0, 6, "parish is not 0 to 5"), number(1, 6, "fact not 0 to 5"));
        look("ofRule", new int[] {0, 1}, (x, w) -> x.ofRule(w[0], w[1]),
            number(0, Sample.RULES, "there is no such RULE"), value(1, 0, 11, "what is not 0 to 11"));
        look("ofCase", new int[] {0, 1}, (x, w) -> x.ofCase(w[0], w[1]),
            number(0, Sample.CASES, "there is no such CASE"), value(1, 0, 13, "what is not 0 to 13"));
        look("tells", new int[] {0, 1}, (x, w) -> x.tells(w[0], w[1]),
            number(0, Sample.CASES, "there is no such CASE"), number(1, Sample.ARTICLES, "there is no such ARTICLE"));
        look("without", new int[] {0, 1}, (x, w) -> x.without(w[0], w[1]),
            number(0, Sample.CASES, "there is no such CASE"), number(1, Sample.ARTICLES, "there is no such ARTICLE"));
        look("wouldJudge", new int[] {0, 1}, (x, w) -> x.wouldJudge(w[0], w[1]),
            number(0, Sample.CASES, "there is no such CASE"), number(1, 4, "judge is not 0 to 3"));
    }

    private static void askedOfArticles() {
        look("ofArticle", new int[] {0, 1}, (x, w) -> x.ofArticle(w[0], w[1]),
            number(0, Sample.ARTICLES, "there is no such ARTICLE"), value(1, 0, 12, "what is not 0 to 12"));
        look("liking", new int[] {0, 1}, (x, w) -> x.liking(w[0], w[1]),
            number(0, 4, "faction is not 0 to 3"), number(1, Sample.ARTICLES, "there is no such ARTICLE"));
        look("isDead", new int[] {0, 1}, (x, w) -> x.isDead(w[0], w[1]),
            number(0, Sample.ARTICLES, "there is no such ARTICLE"), number(1, 6, "parish is not 0 to 5"));
        look("text", new int[] {0}, (x, w) -> x.text(w[0]), number(0, Sample.ARTICLES, "there is no such ARTICLE"));
        look("wouldVote for a BILL", new int[] {0, 1}, (x, w) -> x.wouldVote(w[0], w[1], false),
            number(0, Sample.ARTICLES, "there is no such ARTICLE"), number(1, 3, "house is not 0 to 2"));
        look("wouldVote for a REPEAL", new int[] {0, 1}, (x, w) -> x.wouldVote(w[0], w[1], true),
            number(0, Sample.ARTICLES, "there is no such ARTICLE"), number(1, 3, "house is not 0 to 2"));
    }

    private static void askedOfTheRealm() {
        look("ofFaction", new int[] {0, 1}, (x, w) -> x.ofFaction(w[0], w[1]),
            number(0, 4, "faction is not 0 to 3"), value(1, 0, 8, "what is not 0 to 8"));
        look("grid", new int[] {0, 1, 2}, (x, w) -> x.grid(w[0], w[1], w[2]), number(0, 4, "matter is not 0 to 3"),
            number(1, 6, "parish not 0 to 5"), value(2, 0, 6, "what is not 0 to 6"));
        look("gain", new int[] {0}, (x, w) -> x.gain(w[0]), number(0, 4, "rank is not 0 to 3"));
        look("held", new int[] {0, 1, 5, 100, 1}, (x, w) -> x.held(w[0], w[1], w[2], w[3], w[4]),
            number(0, 4, "matter is not 0 to 3"), number(1, 4, "rank is not 0 to 3"),
            value(2, 0, 63, "facts is not 0 to 63"), value(3, 0, 999, "amount not 0 to 999"),
            value(4, 0, 3, "what not 0 to 3"));
        look("realm", new int[] {0}, (x, w) -> x.realm(w[0]), value(0, 0, 13, "what is not 0 to 13"));
        noSuchNumberAtFirst();
    }

    private static void noSuchNumberAtFirst() {
        Checks.sentence("without RULES, CASES and ARTICLES there is no such one");
        OnecodeChancery x = new OnecodeChancery();
        String before = Sample.seen(x);
        Checks.Call[] refused = {() -> x.limit(0, 0, 0), () -> x.ofRule(0, 0), () -> x.judge(0, 0), () -> x.appeal(0),
            () -> x.ofCase(0, 0), () -> x.tells(0, 0), () -> x.wouldJudge(0, 0), () -> x.without(0, 0),
            () -> x.amend(0), () -> x.pledge(0, 0), () -> x.vote(0), () -> x.repeal(0), () -> x.ofArticle(0, 0),
            () -> x.liking(0, 0), () -> x.isDead(0, 0), () -> x.text(0), () -> x.wouldVote(0, 0, false),
            () -> x.wouldVote(0, 0, true)};
        for (int k = 0; k < refused.length; k++) {
            Checks.refuses("call " + k + " of the number 0", Checks.INDEX, refused[k]);
        }
        Checks.same("what is seen behind them", Sample.seen(x), before);
    }

    // ---- how a call is looked at

    private static void look(String name, int[] base, Asked call, Bound... bounds) {
        CALLS.add(name.split(" ")[0]);
        for (Bound bound : bounds) {
            Checks.sentence(name + ": throws if " + bound.words);
            for (int inside : new int[] {bound.least, bound.most}) {
                accepted(name, call, with(base, bound.place, inside));
            }
            for (int outside : outside(bound)) {
                refused(name, bound.due, call, with(base, bound.place, outside));
            }
        }
        for (int one = 0; one < bounds.length; one++) {
            for (int other = one + 1; other < bounds.length; other++) {
                firstNamed(name, base, call, bounds[one], bounds[other]);
            }
        }
        allWrong(name, base, call, bounds);
    }

    private static int[] outside(Bound bound) {
        return new int[] {bound.least - 1, bound.most + 1, Integer.MIN_VALUE, Integer.MAX_VALUE,
            bound.least - 256, bound.most + 65536};
    }

    private static int[] with(int[] base, int place, int value) {
        int[] changed = base.clone();
        changed[place] = value;
        return changed;
    }

    /** What is inside is taken, or is too late for this one (its "Throws IllegalStateException" is looked at elsewhere). */
    private static void accepted(String name, Asked call, int[] with) {
        OnecodeChancery x = Sample.realm();
        Object outcome = Checks.outcome(() -> call.of(x, with));
        boolean isTooLate = outcome.equals(Checks.STATE.getName()) && isLateAt(name, with);
        Checks.same(name + told(with) + " is refused", Checks.isRefused(outcome), isTooLate);
    }

    private static boolean isLateAt(String name, int[] with) {
        switch (name) {
            case "amend": case "vote":
                return with[0] <= Sample.LOST;
            case "pledge":
                return with[1] <= Sample.LOST || with[0] == Sample.PLEDGED_FACTION;
            case "repeal":
                return with[0] != Sample.VOTED;
            case "judge":
                return with[0] != Sample.OPEN_CASE;
            case "appeal":
                return with[0] == Sample.OPEN_CASE;
            default:
                return false;
        }
    }

    private static void refused(String name, Class<?> due, Asked call, int[] with) {
        OnecodeChancery x = Sample.realm();
        String before = Sample.seen(x);
        Checks.refuses(name + told(with), due, () -> call.of(x, with));
        Checks.same("what is seen behind " + name + told(with), Sample.seen(x), before);
        Checks.same("the TEXT behind " + name + told(with), Sample.fedText(x, Sample.BILL), Sample.FED);
    }

    private static void firstNamed(String name, int[] base, Asked call, Bound one, Bound other) {
        Checks.sentence(name + ": the exception that is named first is thrown (" + one.words + ", " + other.words + ")");
        int[] ones = outside(one);
        int[] others = outside(other);
        for (int k = 0; k < ones.length; k++) {
            for (int j = 0; j < 2; j++) {
                int[] with = with(with(base, one.place, ones[k]), other.place, others[(k + j) % ones.length]);
                OnecodeChancery x = Sample.realm();
                Checks.refuses(name + told(with), one.due, () -> call.of(x, with));
            }
        }
    }

    private static void allWrong(String name, int[] base, Asked call, Bound[] bounds) {
        Checks.sentence(name + ": the exception that is named first is thrown (all wrong)");
        for (int k = 0; k < 4; k++) {
            int[] with = base;
            for (Bound bound : bounds) {
                with = with(with, bound.place, outside(bound)[k]);
            }
            refused(name, bounds[0].due, call, with);
        }
    }

    private static String told(int[] with) {
        return java.util.Arrays.toString(with).replace('[', '(').replace(']', ')');
    }
}
