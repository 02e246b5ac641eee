import java.util.ArrayList;
import java.util.HashSet;
import java.util.LinkedHashMap;
import java.util.List;
import java.util.Map;
import java.util.Set;
import java.util.TreeSet;
import java.util.function.IntUnaryOperator;
import java.util.regex.Matcher;
import java.util.regex.Pattern;

/**
 * The document once more, told as slowly and as plainly as it goes: what the random runs hold the class against.
 * It is asked only what the document lets (RandomRunsTest looks after what is refused).
 */
final class PlainRealm {
    record Sworn(int parish, int matter, int classes, int needs, int bars, int share, int proof, int day) {
        int strength() {
            return 10 * Integer.bitCount(needs) + 10 * Integer.bitCount(bars) + proof;
        }
    }

    record Act(int plaintiff, int defendant, int rank, int matter, int facts, int amount, int day) {
        Act on(int otherDay) {
            return new Act(plaintiff, defendant, rank, matter, facts, amount, otherDay);
        }
    }

    record Limit(char sign, int number) {
    }

    record Said(int matter, TreeSet<Integer> classes, TreeSet<Integer> plus, TreeSet<Integer> minus, List<Limit> limits,
                String outcome, int exceptionTo) {
        boolean applies(Act act) {
            boolean applies = act.matter == matter && classes.contains(act.rank);
            for (int fact : plus) {
                applies &= (act.facts & 1 << fact) != 0;
            }
            for (int fact : minus) {
                applies &= (act.facts & 1 << fact) == 0;
            }
            for (Limit limit : limits) {
                applies &= limit.sign == '<' ? act.amount < limit.number : act.amount > limit.number;
            }
            return applies;
        }

        String text() {
            StringBuilder out = new StringBuilder("m" + matter + "c");
            classes.forEach(out::append);
            plus.forEach(fact -> out.append("+").append(fact));
            minus.forEach(fact -> out.append("-").append(fact));
            limits.forEach(limit -> out.append(limit.sign).append(limit.number));
            out.append("=").append(outcome);
            return exceptionTo < 0 ? out.toString() : out + "x" + exceptionTo;
        }
    }

    private static final Pattern FORM = Pattern.compile(
        "m *([0-3]) *c((?: *[0-3])+)((?: *[+-] *[0-5]| *[<>] *\\d{1,3}(?! *\\d))*) *= *"
            + "(\\d{1,3}|@ *\\d{1,3}|%) *(?:x *(\\d{1,3}) *)?");

    int day;
    int refused;
    int reversed;
    final int[] people = {10, 10, 10, 10, 10, 10};
    final List<List<Integer>> words = new ArrayList<>();
    final int[] ties = new int[4];
    final List<Sworn> rules = new ArrayList<>();
    final List<int[]> ranges = new ArrayList<>();
    final List<Act> acts = new ArrayList<>();
    final Map<Integer, Integer> judgeOf = new LinkedHashMap<>();
    final Map<Integer, Integer> verdictOf = new LinkedHashMap<>();
    final StringBuilder fed = new StringBuilder();
    final List<Said> articles = new ArrayList<>();
    final List<Integer> states = new ArrayList<>();
    final Map<Integer, Integer> froms = new LinkedHashMap<>();
    final Map<Integer, Integer> ends = new LinkedHashMap<>();
    final int[][] seats = {{5, 5, 5, 5}, {5, 5, 5, 5}, {5, 5, 5, 5}};
    final int[][] moods = new int[4][4];
    final int[] tastes = new int[4];
    final Map<Integer, Integer> pledges = new LinkedHashMap<>();
    final int[] ways = new int[4];

    PlainRealm() {
        for (int parish = 0; parish < 6; parish++) {
            words.add(new ArrayList<>(List.of(0, 1, 2, 3, 4, 5)));
        }
    }

    // ---- customs

    boolean holds(int rule, Act act) {
        Sworn r = rules.get(rule);
        int[] range = ranges.get(rule);
        return r.matter == act.matter && (r.classes & 1 << act.rank) != 0 && (r.needs & ~act.facts) == 0
            && (r.bars & act.facts) == 0 && range[0] <= act.amount && act.amount <= range[1] && r.day <= act.day;
    }

    int custom(int parish, Act act) {
        int best = 0;
        Set<Integer> shares = new HashSet<>();
        for (int rule = 0; rule < rules.size(); rule++) {
            if (rules.get(rule).parish == parish && holds(rule, act)) {
                best = Math.max(best, rules.get(rule).strength());
            }
        }
        for (int rule = 0; rule < rules.size(); rule++) {
            Sworn r = rules.get(rule);
            if (r.parish == parish && holds(rule, act) && r.strength() == best) {
                shares.add(r.share);
            }
        }
        return same(shares);
    }

    private static int same(Set<Integer> tellings) {
        return tellings.isEmpty() ? -1 : tellings.size() > 1 ? -2 : tellings.iterator().next();
    }

    int byTie(Act act) {
        int one = custom(act.plaintiff, act);
        int two = custom(act.defendant, act);
        if (ties[act.matter] < 2) {
            return ties[act.matter] == 0 ? one : two;
        }
        if (one >= 0 && two >= 0) {
            return one < two ? one : two;
        }
        if (one >= 0) {
            return one;
        }
        if (two >= 0) {
            return two;
        }
        return one == -2 || two == -2 ? -2 : -1;
    }

    // ---- articles

    Said read(int names) {
        Matcher m = FORM.matcher(fed.toString().strip());
        if (!m.matches()) {
            return null;
        }
        TreeSet<Integer> classes = new TreeSet<>();
        String ranks = m.group(2).replace(" ", "");
        for (int k = 0; k < ranks.length(); k++) {
            int rank = ranks.charAt(k) - '0';
            if (!classes.isEmpty() && classes.last() >= rank) {
                return null;
            }
            classes.add(rank);
        }
        TreeSet<Integer> plus = new TreeSet<>();
        TreeSet<Integer> minus = new TreeSet<>();
        List<Limit> limits = new ArrayList<>();
        Matcher c = Pattern.compile("([+<>-])(\\d+)").matcher(m.group(3).replace(" ", ""));
        while (c.find()) {
            int number = Integer.parseInt(c.group(2));
            switch (c.group(1)) {
                case "+" -> plus.add(number);
                case "-" -> minus.add(number);
                default -> limits.add(new Limit(c.group(1).charAt(0), number));
            }
        }
        String outcome = m.group(4).replace(" ", "");
        if (!outcome.equals("%")) {
            boolean refers = outcome.startsWith("@");
            int number = Integer.parseInt(refers ? outcome.substring(1) : outcome);
            if (refers ? number >= names : number > 100) {
                return null;
            }
            outcome = (refers ? "@" : "") + number;
        }
        int exceptionTo = m.group(5) == null ? -1 : Integer.parseInt(m.group(5));
        if (limits.size() > 2 || exceptionTo >= names) {
            return null;
        }
        return new Said(Integer.parseInt(m.group(1)), classes, plus, minus, limits, outcome, exceptionTo);
    }

    int write() {
        Said said = read(articles.size());
        fed.setLength(0);
        if (said == null) {
            return -1;
        }
        articles.add(said);
        states.add(0);
        return articles.size() - 1;
    }

    boolean amend(int bill) {
        Said said = read(bill);
        fed.setLength(0);
        if (said != null) {
            articles.set(bill, said);
        }
        return said != null;
    }

    boolean inForce(int article, int asOf, int left) {
        return article != left && froms.containsKey(article) && froms.get(article) <= asOf
            && !(ends.containsKey(article) && ends.get(article) <= asOf);
    }

    int tells(int article, Act act, int left, Set<Integer> beingTold) {
        if (beingTold.contains(article)) {
            return -3;
        }
        Set<Integer> now = new HashSet<>(beingTold);
        now.add(article);
        Set<Integer> tellings = new HashSet<>();
        for (int other = 0; other < articles.size(); other++) {
            Said said = articles.get(other);
            if (said.exceptionTo == article && inForce(other, act.day, left) && said.applies(act)) {
                tellings.add(tells(other, act, left, now));
            }
        }
        if (!tellings.isEmpty()) {
            return same(tellings);
        }
        String outcome = articles.get(article).outcome;
        if (outcome.equals("%")) {
            return byTie(act);
        }
        if (!outcome.startsWith("@")) {
            return Integer.parseInt(outcome);
        }
        int named = Integer.parseInt(outcome.substring(1));
        return inForce(named, act.day, left) ? tells(named, act, left, now) : -1;
    }

    int code(Act act, int left) {
        Set<Integer> tellings = new HashSet<>();
        for (int article = 0; article < articles.size(); article++) {
            Said said = articles.get(article);
            if (said.exceptionTo < 0 && inForce(article, act.day, left) && said.applies(act)) {
                tellings.add(tells(article, act, left, Set.of()));
            }
        }
        return same(tellings);
    }

    // ---- houses

    int liking(int faction, int article) {
        Said said = articles.get(article);
        int mood = moods[faction][said.matter];
        if (!Character.isDigit(said.outcome.charAt(0))) {
            return mood;
        }
        return mood + tastes[faction] * (Integer.parseInt(said.outcome) - 50) / 25;
    }

    int wouldVote(int article, int house, boolean isRepeal) {
        int sum = 0;
        for (int faction = 0; faction < 4; faction++) {
            int liking = liking(faction, article);
            boolean isFor = isRepeal ? liking < 0 : liking > 0 || pledges.getOrDefault(faction, -1) == article;
            boolean isAgainst = !isFor && (isRepeal ? liking > 0 : liking < 0);
            sum += isFor ? seats[house][faction] : isAgainst ? -seats[house][faction] : 0;
        }
        return sum;
    }

    private int houses(int article, boolean isRepeal) {
        int count = 0;
        for (int house = 0; house < 3; house++) {
            count += wouldVote(article, house, isRepeal) > 0 ? 1 : 0;
        }
        return count;
    }

    int vote(int bill) {
        int count = houses(bill, false);
        states.set(bill, count >= 2 ? 1 : 3);
        if (count >= 2) {
            froms.put(bill, day + 30);
        }
        for (int faction = 0; faction < 4; faction++) {
            if (pledges.getOrDefault(faction, -1) == bill) {
                pledges.remove(faction);
                int matter = articles.get(bill).matter;
                moods[faction][matter] = Math.max(-5, moods[faction][matter] - 1);
            }
        }
        return count;
    }

    int repeal(int article) {
        int count = houses(article, true);
        if (count >= 2) {
            states.set(article, 2);
            ends.put(article, day + 30);
        }
        return count;
    }

    // ---- judges

    int wouldJudge(int dispute, int judge) {
        Act act = acts.get(dispute);
        int code = code(act, -1);
        int custom = byTie(act);
        switch (ways[judge]) {
            case 1:
                return code > 50 ? Math.min(100, code + 10) : code < 0 || code == 50 ? code : Math.max(0, code - 10);
            case 2:
                return custom >= 0 ? custom : code;
            case 3:
                return custom >= 0 && code >= 0 ? (custom + code) / 2 : code;
            default:
                return code;
        }
    }

    int judge(int dispute, int judge) {
        verdictOf.put(dispute, wouldJudge(dispute, judge));
        judgeOf.put(dispute, judge);
        return verdictOf.get(dispute);
    }

    int appeal(int dispute) {
        int code = code(acts.get(dispute), -1);
        if (verdictOf.get(dispute) != code) {
            reversed++;
            verdictOf.put(dispute, code);
        }
        return code;
    }

    // ---- what is asked

    List<Act> gridOf(int matter, int parish) {
        TreeSet<Integer> marks = new TreeSet<>(Set.of(0));
        for (int article = 0; article < articles.size(); article++) {
            if (articles.get(article).matter == matter && states.get(article) != 3) {
                for (Limit limit : articles.get(article).limits) {
                    marks.add(limit.sign == '<' ? limit.number : limit.number + 1);
                }
            }
        }
        marks.remove(1000);
        List<Act> all = new ArrayList<>();
        for (int rank = 0; rank < 4; rank++) {
            for (int facts = 0; facts < 64; facts++) {
                for (int mark : marks) {
                    all.add(new Act(parish, parish, rank, matter, facts, mark, day));
                }
            }
        }
        return all;
    }

    int grid(int matter, int parish, int what) {
        List<Integer> told = new ArrayList<>();
        gridOf(matter, parish).forEach(act -> told.add(code(act, -1)));
        switch (what) {
            case 0:
                return told.size();
            case 1: case 2: case 3:
                return (int) told.stream().filter(t -> t == -what).count();
            case 4: case 5:
                return told.indexOf(3 - what);
            default:
                return told.stream().filter(t -> t >= 0).mapToInt(t -> t).sum();
        }
    }

    boolean isDead(int article, int parish) {
        return gridOf(articles.get(article).matter, parish).stream().allMatch(act -> code(act, -1) == code(act, article));
    }

    private static int worth(Act act, int told) {
        return told < 0 ? 0 : act.amount * told / 100;
    }

    int gain(int rank) {
        return acts.stream().filter(act -> act.rank == rank)
            .mapToInt(act -> worth(act, code(act.on(day), -1)) - worth(act, byTie(act))).sum();
    }

    int held(int matter, int rank, int facts, int amount, int what) {
        Map<Integer, Integer> peopleWho = new LinkedHashMap<>();
        for (int parish = 0; parish < 6; parish++) {
            peopleWho.merge(custom(parish, new Act(parish, parish, rank, matter, facts, amount, day)), people[parish],
                Integer::sum);
        }
        int best = -1;
        int count = 0;
        for (int share = 100; share >= 0; share--) {
            if (peopleWho.getOrDefault(share, 0) >= Math.max(count, 1)) {
                best = share;
                count = peopleWho.get(share);
            }
        }
        int[] answers = {best, count, peopleWho.getOrDefault(-2, 0), peopleWho.getOrDefault(-1, 0)};
        return answers[what];
    }

    double uniformity() {
        int pairs = 0;
        int same = 0;
        for (int one : verdictOf.keySet()) {
            for (int two : verdictOf.keySet()) {
                Act a = acts.get(one);
                Act b = acts.get(two);
                if (one < two && a.matter == b.matter && a.rank == b.rank && a.facts == b.facts) {
                    pairs++;
                    same += verdictOf.get(one).equals(verdictOf.get(two)) ? 1 : 0;
                }
            }
        }
        return pairs == 0 ? 1.0 : (double) same / pairs;
    }

    int ofRule(int rule, int what) {
        Sworn r = rules.get(rule);
        int holding = 0;
        for (Act act : acts) {
            holding += act.plaintiff == r.parish && holds(rule, act) ? 1 : 0;
        }
        int[] answers = {r.parish, r.matter, r.classes, r.needs, r.bars, r.share, r.proof, ranges.get(rule)[0],
            ranges.get(rule)[1], r.day, r.strength(), holding};
        return answers[what];
    }

    int ofCase(int dispute, int what) {
        Act a = acts.get(dispute);
        int[] answers = {a.plaintiff, a.defendant, a.rank, a.matter, a.facts, a.amount, a.day, custom(a.plaintiff, a),
            custom(a.defendant, a), byTie(a), code(a, -1), code(a.on(day), -1), judgeOf.getOrDefault(dispute, -1),
            verdictOf.getOrDefault(dispute, -1)};
        return answers[what];
    }

    int ofArticle(int article, int what) {
        Said said = articles.get(article);
        int least = 0;
        int greatest = 999;
        for (Limit limit : said.limits) {
            least = limit.sign == '>' ? Math.max(least, limit.number + 1) : least;
            greatest = limit.sign == '<' ? Math.min(greatest, limit.number - 1) : greatest;
        }
        int outcome = said.outcome.equals("%") ? -1
            : said.outcome.startsWith("@") ? -2 - Integer.parseInt(said.outcome.substring(1))
            : Integer.parseInt(said.outcome);
        int exceptions = (int) articles.stream().filter(other -> other.exceptionTo == article).count();
        int[] answers = {said.matter, set(said.classes), set(said.plus), set(said.minus), least, greatest, outcome,
            said.exceptionTo, states.get(article), froms.getOrDefault(article, -1), ends.getOrDefault(article, -1),
            inForce(article, day, -1) ? 1 : 0, exceptions};
        return answers[what];
    }

    private static int set(Set<Integer> members) {
        return members.stream().mapToInt(k -> 1 << k).sum();
    }

    int ofFaction(int faction, int what) {
        int[] answers = {moods[faction][0], moods[faction][1], moods[faction][2], moods[faction][3], tastes[faction],
            pledges.getOrDefault(faction, -1), seats[0][faction], seats[1][faction], seats[2][faction]};
        return answers[what];
    }

    int realm(int what) {
        switch (what) {
            case 0: return day;
            case 1: return rules.size();
            case 2: return acts.size();
            case 3: return articles.size();
            case 4: case 5: case 6: case 7:
                return (int) states.stream().filter(state -> state == what - 4).count();
            case 8:
                int standing = 0;
                for (int article = 0; article < articles.size(); article++) {
                    standing += inForce(article, day, -1) ? 1 : 0;
                }
                return standing;
            case 9: return verdictOf.size();
            case 10: return reversed;
            case 11: return (int) acts.stream().filter(act -> code(act, -1) != byTie(act)).count();
            case 12: return fed.length();
            default: return refused;
        }
    }

    // ---- the checksum

    long digest() {
        List<Integer> values = new ArrayList<>();
        addAll(values, 14, this::realm);
        for (int parish = 0; parish < 6; parish++) {
            values.add(people[parish]);
            values.addAll(words.get(parish));
        }
        for (int k = 0; k < rules.size(); k++) {
            int rule = k;
            values.add(ofRule(rule, 5));
            addAll(values, 5, what -> ofRule(rule, what + 7));
        }
        for (int k = 0; k < acts.size(); k++) {
            int dispute = k;
            values.add(ofCase(dispute, 4));
            addAll(values, 8, what -> ofCase(dispute, what + 6));
        }
        for (int k = 0; k < articles.size(); k++) {
            int article = k;
            addAll(values, 13, what -> ofArticle(article, what));
            addAll(values, 4, faction -> liking(faction, article));
        }
        for (int k = 0; k < 4; k++) {
            int faction = k;
            addAll(values, 9, what -> ofFaction(faction, what));
        }
        addAll(values, 4, judge -> ways[judge]);
        for (int k = 0; k < 4; k++) {
            int matter = k;
            addAll(values, 7, what -> grid(matter, 0, what));
        }
        addAll(values, 4, this::gain);
        addAll(values, 4, what -> held(0, 0, 0, 100, what));
        values.add((int) (64 * uniformity()));
        values.add(1);
        return values.stream().mapToLong(v -> v).reduce(4099, (d, v) -> d * 31 + v);
    }

    private static void addAll(List<Integer> values, int count, IntUnaryOperator answer) {
        for (int k = 0; k < count; k++) {
            values.add(answer.applyAsInt(k));
        }
    }
}
