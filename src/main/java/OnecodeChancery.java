/**
 * One law for many customs.
 *
 * <p>A realm of parishes with customs of their own, and a code of articles that three houses vote
 * into force and repeal. The words in capitals and every promise are those of the document DOC.md.
 */
public final class OnecodeChancery {
    private static final int NONE = -1;
    private static final int GAP = -1;
    private static final int CLASH = -2;
    private static final int CIRCLE = -3;

    private static final int PARISHES = 6;
    private static final int CLASSES = 4;
    private static final int MATTERS = 4;
    private static final int FACTS = 6;
    private static final int HOUSES = 3;
    private static final int FACTIONS = 4;
    private static final int JUDGES = 4;

    private static final int CLASS_SETS = 1 << CLASSES;
    private static final int FACT_SETS = 1 << FACTS;
    private static final int MOST_RULES = 40;
    private static final int MOST_CASES = 24;
    private static final int MOST_ARTICLES = 24;
    private static final int MOST_SIGNS = 60;
    private static final int MOST_LIMITS = 2;
    private static final int MOST_MARKS = 1 + MOST_LIMITS * MOST_ARTICLES;
    private static final int MOST_AMOUNT = 999;
    private static final int MOST_SHARE = 100;
    private static final int MOST_PASSED = 400;
    private static final int LAST_DAY = 3000;
    private static final int DAYS_TO_FORCE = 30;
    private static final int HOUSES_NEEDED = 2;

    private static final int BY_CUSTOM = -1;
    private static final int FIRST_REFERENCE = -2;

    private static final int BILL = 0;
    private static final int VOTED = 1;
    private static final int REPEALED = 2;
    private static final int LOST = 3;

    private static final int STRETCHES = 1;
    private static final int RESISTS = 2;
    private static final int MIXES = 3;

    private static final int LEAST_MOOD = -5;
    private static final int MOST_MOOD = 5;

    private int day;
    private int refused;
    private int reversed;
    private int caseCount;
    private final int[] peopleOf = new int[PARISHES];
    private final int[][] wordings = new int[PARISHES][FACTS];
    private final int[] ways = new int[JUDGES];
    private final int[] heldBy = new int[PARISHES];
    private final Dispute[] cases = new Dispute[MOST_CASES];
    private final Customs customs = new Customs();
    private final Code code = new Code(customs);
    private final Houses houses = new Houses();
    private final Draft draft = new Draft();
    private final Grid table = new Grid();

    public OnecodeChancery() {
        for (int parish = 0; parish < PARISHES; parish++) {
            peopleOf[parish] = 10;
            for (int fact = 0; fact < FACTS; fact++) {
                wordings[parish][fact] = fact;
            }
        }
        for (int k = 0; k < MOST_CASES; k++) {
            cases[k] = new Dispute();
        }
    }

    // ---- the realm and its customs

    public int people(int parish, int people) throws IndexOutOfBoundsException, IllegalArgumentException {
        needNumber(parish, PARISHES);
        needValue(people, 1, 99);
        int before = peopleOf[parish];
        peopleOf[parish] = people;
        return before;
    }

    public int swap(int parish, int one, int two) throws IndexOutOfBoundsException, IllegalArgumentException {
        needNumber(parish, PARISHES);
        needValue(one, 0, FACTS - 1);
        needValue(two, 0, FACTS - 1);
        int first = wordings[parish][one];
        wordings[parish][one] = wordings[parish][two];
        wordings[parish][two] = first;
        return wordings[parish][one];
    }

    public int tie(int matter, int tie) throws IndexOutOfBoundsException, IllegalArgumentException {
        needNumber(matter, MATTERS);
        needValue(tie, 0, 2);
        int before = customs.ties[matter];
        customs.ties[matter] = tie;
        return before;
    }

    public int rule(int parish, int matter, int classes, int needs, int bars, int share, int proof)
            throws IndexOutOfBoundsException, IllegalArgumentException, IllegalStateException {
        needNumber(parish, PARISHES);
        needNumber(matter, MATTERS);
        needValue(classes, 1, CLASS_SETS - 1);
        needValue(needs, 0, FACT_SETS - 1);
        needValue(bars, 0, FACT_SETS - 1);
        needValue(needs & bars, 0, 0);
        needValue(share, 0, MOST_SHARE);
        needValue(proof, 1, 5);
        needState(customs.count < MOST_RULES);
        Rule sworn = customs.rules[customs.count];
        sworn.parish = parish;
        sworn.matter = matter;
        sworn.classes = classes;
        sworn.needs = needs;
        sworn.bars = bars;
        sworn.share = share;
        sworn.proof = proof;
        sworn.strength = 10 * Integer.bitCount(needs | bars) + proof;
        sworn.sworn = day;
        customs.count++;
        return customs.count - 1;
    }

    public int limit(int rule, int least, int most) throws IndexOutOfBoundsException, IllegalArgumentException {
        needNumber(rule, customs.count);
        needValue(least, 0, MOST_AMOUNT);
        needValue(most, least, MOST_AMOUNT);
        customs.rules[rule].least = least;
        customs.rules[rule].most = most;
        return customs.rules[rule].strength;
    }

    public int dispute(int plaintiff, int defendant, int rank, int matter, int facts, int amount, int ago)
            throws IndexOutOfBoundsException, IllegalArgumentException, IllegalStateException {
        needNumber(plaintiff, PARISHES);
        needNumber(defendant, PARISHES);
        needNumber(rank, CLASSES);
        needNumber(matter, MATTERS);
        needValue(facts, 0, FACT_SETS - 1);
        needValue(amount, 0, MOST_AMOUNT);
        needValue(ago, 0, day);
        needState(caseCount < MOST_CASES);
        Dispute told = cases[caseCount];
        told.plaintiff = plaintiff;
        told.defendant = defendant;
        told.rank = rank;
        told.matter = matter;
        told.facts = realFacts(plaintiff, facts);
        told.amount = amount;
        told.day = day - ago;
        caseCount++;
        return caseCount - 1;
    }

    // ---- articles

    public int feed(int sign) throws IllegalArgumentException, IllegalStateException {
        needValue(sign, 32, 126);
        needState(draft.length < MOST_SIGNS);
        draft.signs[draft.length] = sign;
        draft.length++;
        return draft.length;
    }

    public int write() throws IllegalStateException {
        needState(code.count < MOST_ARTICLES);
        return takeDraft(code.count) ? code.count - 1 : NONE;
    }

    public boolean amend(int bill) throws IndexOutOfBoundsException, IllegalStateException {
        needNumber(bill, code.count);
        needState(code.articles[bill].state == BILL);
        return takeDraft(bill);
    }

    // ---- houses

    public int seats(int house, int faction, int seats) throws IndexOutOfBoundsException, IllegalArgumentException {
        needNumber(house, HOUSES);
        needNumber(faction, FACTIONS);
        needValue(seats, 0, 60);
        houses.factions[faction].seats[house] = seats;
        return houses.allSeats(house);
    }

    public int mood(int faction, int matter, int mood) throws IndexOutOfBoundsException, IllegalArgumentException {
        needNumber(faction, FACTIONS);
        needNumber(matter, MATTERS);
        needValue(mood, LEAST_MOOD, MOST_MOOD);
        int before = houses.factions[faction].moods[matter];
        houses.factions[faction].moods[matter] = mood;
        return before;
    }

    public int taste(int faction, int taste) throws IndexOutOfBoundsException, IllegalArgumentException {
        needNumber(faction, FACTIONS);
        needValue(taste, -3, 3);
        int before = houses.factions[faction].taste;
        houses.factions[faction].taste = taste;
        return before;
    }

    public int pledge(int faction, int bill) throws IndexOutOfBoundsException, IllegalStateException {
        needNumber(faction, FACTIONS);
        needNumber(bill, code.count);
        needState(code.articles[bill].state == BILL);
        needState(houses.factions[faction].pledged == NONE);
        houses.factions[faction].pledged = bill;
        return houses.pledgedFor(bill);
    }

    public int vote(int bill) throws IndexOutOfBoundsException, IllegalStateException {
        needNumber(bill, code.count);
        Article article = code.articles[bill];
        needState(article.state == BILL);
        int inFavour = houses.inFavour(article, false);
        if (inFavour >= HOUSES_NEEDED) {
            article.state = VOTED;
            article.from = day + DAYS_TO_FORCE;
        } else {
            article.state = LOST;
        }
        houses.release(article);
        return inFavour;
    }

    public int repeal(int article) throws IndexOutOfBoundsException, IllegalStateException {
        needNumber(article, code.count);
        Article old = code.articles[article];
        needState(old.state == VOTED);
        int inFavour = houses.inFavour(old, true);
        if (inFavour >= HOUSES_NEEDED) {
            old.state = REPEALED;
            old.end = day + DAYS_TO_FORCE;
        }
        return inFavour;
    }

    // ---- judges, time

    public int way(int judge, int way) throws IndexOutOfBoundsException, IllegalArgumentException {
        needNumber(judge, JUDGES);
        needValue(way, 0, MIXES);
        int before = ways[judge];
        ways[judge] = way;
        return before;
    }

    public int judge(int dispute, int judge) throws IndexOutOfBoundsException, IllegalStateException {
        needNumber(dispute, caseCount);
        needNumber(judge, JUDGES);
        Dispute judged = cases[dispute];
        needState(judged.judge == NONE);
        judged.verdict = judgedBy(ways[judge], judged);
        judged.judge = judge;
        return judged.verdict;
    }

    public int appeal(int dispute) throws IndexOutOfBoundsException, IllegalStateException {
        needNumber(dispute, caseCount);
        Dispute judged = cases[dispute];
        needState(judged.judge != NONE);
        int told = byCode(judged, judged.day);
        if (judged.verdict != told) {
            judged.verdict = told;
            reversed++;
        }
        return judged.verdict;
    }

    public int pass(int days) throws IllegalArgumentException, IllegalStateException {
        needValue(days, 1, MOST_PASSED);
        needState(day + days <= LAST_DAY);
        day += days;
        return day;
    }

    public int call() {
        refused++;
        return refused;
    }

    // ---- what is asked

    public int means(int parish, int fact) throws IndexOutOfBoundsException {
        needNumber(parish, PARISHES);
        needNumber(fact, FACTS);
        return wordings[parish][fact];
    }

    public int ofRule(int rule, int what) throws IndexOutOfBoundsException, IllegalArgumentException {
        needNumber(rule, customs.count);
        needValue(what, 0, 11);
        Rule asked = customs.rules[rule];
        switch (what) {
            case 0: return asked.parish;
            case 1: return asked.matter;
            case 2: return asked.classes;
            case 3: return asked.needs;
            case 4: return asked.bars;
            case 5: return asked.share;
            case 6: return asked.proof;
            case 7: return asked.least;
            case 8: return asked.most;
            case 9: return asked.sworn;
            case 10: return asked.strength;
            default: return casesOf(asked);
        }
    }

    public int ofCase(int dispute, int what) throws IndexOutOfBoundsException, IllegalArgumentException {
        needNumber(dispute, caseCount);
        needValue(what, 0, 13);
        Dispute asked = cases[dispute];
        switch (what) {
            case 0: return asked.plaintiff;
            case 1: return asked.defendant;
            case 2: return asked.rank;
            case 3: return asked.matter;
            case 4: return asked.facts;
            case 5: return asked.amount;
            case 6: return asked.day;
            case 7: return customs.ofParish(asked.plaintiff, asked, asked.day);
            case 8: return customs.ofParish(asked.defendant, asked, asked.day);
            case 9: return customs.byTie(asked, asked.day);
            case 10: return byCode(asked, asked.day);
            case 11: return byCode(asked, day);
            case 12: return asked.judge;
            default: return asked.verdict;
        }
    }

    public int tells(int dispute, int article) throws IndexOutOfBoundsException {
        needNumber(dispute, caseCount);
        needNumber(article, code.count);
        Dispute asked = cases[dispute];
        return code.toldBy(article, code.inForce(asked.day), asked, asked.day);
    }

    public int ofArticle(int article, int what) throws IndexOutOfBoundsException, IllegalArgumentException {
        needNumber(article, code.count);
        needValue(what, 0, 12);
        Article asked = code.articles[article];
        switch (what) {
            case 0: return asked.clause.matter;
            case 1: return asked.clause.classes;
            case 2: return asked.clause.wanted;
            case 3: return asked.clause.unwanted;
            case 4: return asked.clause.least;
            case 5: return asked.clause.greatest;
            case 6: return asked.clause.outcome;
            case 7: return asked.clause.exceptionTo;
            case 8: return asked.state;
            case 9: return asked.from;
            case 10: return asked.end;
            case 11: return asked.isInForce(day) ? 1 : 0;
            default: return Integer.bitCount(asked.exceptions);
        }
    }

    public int liking(int faction, int article) throws IndexOutOfBoundsException {
        needNumber(faction, FACTIONS);
        needNumber(article, code.count);
        return houses.factions[faction].likes(code.articles[article].clause);
    }

    public int ofFaction(int faction, int what) throws IndexOutOfBoundsException, IllegalArgumentException {
        needNumber(faction, FACTIONS);
        needValue(what, 0, 8);
        Faction asked = houses.factions[faction];
        if (what < MATTERS) {
            return asked.moods[what];
        }
        switch (what) {
            case 4: return asked.taste;
            case 5: return asked.pledged;
            case 6: return asked.seats[0];
            case 7: return asked.seats[1];
            default: return asked.seats[2];
        }
    }

    public int grid(int matter, int parish, int what) throws IndexOutOfBoundsException, IllegalArgumentException {
        needNumber(matter, MATTERS);
        needNumber(parish, PARISHES);
        needValue(what, 0, 6);
        table.count(matter, parish, code, day);
        return table.counts[what];
    }

    public boolean isDead(int article, int parish) throws IndexOutOfBoundsException {
        needNumber(article, code.count);
        needNumber(parish, PARISHES);
        int all = code.inForce(day);
        int others = all & ~(1 << article);
        if (others == all) {
            return true;
        }
        table.lay(code.articles[article].clause.matter, parish, code);
        int size = table.size();
        for (int place = 0; place < size; place++) {
            if (code.told(all, table.probe, day) != code.told(others, table.probe, day)) {
                return false;
            }
            table.step();
        }
        return true;
    }

    public int gain(int rank) throws IndexOutOfBoundsException {
        needNumber(rank, CLASSES);
        int sum = 0;
        for (int k = 0; k < caseCount; k++) {
            Dispute asked = cases[k];
            if (asked.rank == rank) {
                sum += asked.worth(byCode(asked, day)) - asked.worth(customs.byTie(asked, asked.day));
            }
        }
        return sum;
    }

    public int held(int matter, int rank, int facts, int amount, int what)
            throws IndexOutOfBoundsException, IllegalArgumentException {
        needNumber(matter, MATTERS);
        needNumber(rank, CLASSES);
        needValue(facts, 0, FACT_SETS - 1);
        needValue(amount, 0, MOST_AMOUNT);
        needValue(what, 0, 3);
        askParishes(matter, rank, facts, amount);
        switch (what) {
            case 0: return mostHeld();
            case 1: return mostHeld() == GAP ? 0 : peopleWho(mostHeld());
            case 2: return peopleWho(CLASH);
            default: return peopleWho(GAP);
        }
    }

    public double uniformity() {
        int pairs = 0;
        int same = 0;
        for (int k = 0; k < caseCount; k++) {
            for (int other = k + 1; other < caseCount; other++) {
                if (cases[k].isAlike(cases[other])) {
                    pairs++;
                    same += cases[k].verdict == cases[other].verdict ? 1 : 0;
                }
            }
        }
        return pairs == 0 ? 1.0 : (double) same / (double) pairs;
    }

    public int realm(int what) throws IllegalArgumentException {
        needValue(what, 0, 13);
        switch (what) {
            case 0: return day;
            case 1: return customs.count;
            case 2: return caseCount;
            case 3: return code.count;
            case 4: return code.countOf(BILL);
            case 5: return code.countOf(VOTED);
            case 6: return code.countOf(REPEALED);
            case 7: return code.countOf(LOST);
            case 8: return Integer.bitCount(code.inForce(day));
            case 9: return verdictCount();
            case 10: return reversed;
            case 11: return againstCustom();
            case 12: return draft.length;
            default: return refused;
        }
    }

    public String text(int article) throws IndexOutOfBoundsException {
        needNumber(article, code.count);
        StringBuilder out = new StringBuilder();
        code.articles[article].clause.appendTo(out);
        return out.toString();
    }

    // ---- what would be (nothing is changed)

    public int wouldVote(int article, int house, boolean isRepeal) throws IndexOutOfBoundsException {
        needNumber(article, code.count);
        needNumber(house, HOUSES);
        return houses.balance(house, code.articles[article], isRepeal);
    }

    public int wouldJudge(int dispute, int judge) throws IndexOutOfBoundsException {
        needNumber(dispute, caseCount);
        needNumber(judge, JUDGES);
        return judgedBy(ways[judge], cases[dispute]);
    }

    public int without(int dispute, int article) throws IndexOutOfBoundsException {
        needNumber(dispute, caseCount);
        needNumber(article, code.count);
        Dispute asked = cases[dispute];
        return code.told(code.inForce(asked.day) & ~(1 << article), asked, asked.day);
    }

    public boolean isSound() {
        return hasSoundWordings() && hasSoundVerdicts() && hasSoundPledges() && hasSoundArticles();
    }

    public long digest() {
        long d = 4099;
        for (int what = 0; what <= 13; what++) {
            d = d * 31 + realm(what);
        }
        for (int parish = 0; parish < PARISHES; parish++) {
            d = d * 31 + peopleOf[parish];
            for (int fact = 0; fact < FACTS; fact++) {
                d = d * 31 + wordings[parish][fact];
            }
        }
        d = withArticles(withCases(withRules(d)));
        for (int faction = 0; faction < FACTIONS; faction++) {
            for (int what = 0; what <= 8; what++) {
                d = d * 31 + ofFaction(faction, what);
            }
        }
        for (int judge = 0; judge < JUDGES; judge++) {
            d = d * 31 + ways[judge];
        }
        d = withGrids(d);
        for (int rank = 0; rank < CLASSES; rank++) {
            d = d * 31 + gain(rank);
        }
        for (int what = 0; what <= 3; what++) {
            d = d * 31 + held(0, 0, 0, 100, what);
        }
        d = d * 31 + (long) (64 * uniformity());
        return d * 31 + (isSound() ? 1 : 0);
    }

    // ---- what is refused

    private static void needNumber(int number, int count) {
        if (number < 0 || number >= count) {
            throw new IndexOutOfBoundsException("there is no such number");
        }
    }

    private static void needValue(int value, int least, int most) {
        if (value < least || value > most) {
            throw new IllegalArgumentException("the value is out of its range");
        }
    }

    private static void needState(boolean holds) {
        if (!holds) {
            throw new IllegalStateException("it is too late, or there are too many");
        }
    }

    // ---- parts of the calls

    private int realFacts(int parish, int facts) {
        int real = 0;
        for (int fact = 0; fact < FACTS; fact++) {
            if ((facts >> fact & 1) == 1) {
                real |= 1 << wordings[parish][fact];
            }
        }
        return real;
    }

    private boolean takeDraft(int number) {
        Clause clause = new Clause();
        boolean isArticle = draft.readInto(clause, number);
        draft.length = 0;
        if (isArticle) {
            code.put(number, clause);
        }
        return isArticle;
    }

    private int byCode(Dispute asked, int asOf) {
        return code.told(code.inForce(asOf), asked, asOf);
    }

    private int judgedBy(int way, Dispute judged) {
        int told = byCode(judged, judged.day);
        if (way == STRETCHES) {
            return stretched(told);
        }
        if (way == RESISTS || way == MIXES) {
            int custom = customs.byTie(judged, judged.day);
            if (custom < 0) {
                return told;
            }
            if (way == RESISTS) {
                return custom;
            }
            return told < 0 ? told : (told + custom) / 2;
        }
        return told;
    }

    private static int stretched(int told) {
        if (told > 50) {
            return Math.min(told + 10, MOST_SHARE);
        }
        return told >= 0 && told < 50 ? Math.max(told - 10, 0) : told;
    }

    private int casesOf(Rule rule) {
        int count = 0;
        for (int k = 0; k < caseCount; k++) {
            if (cases[k].plaintiff == rule.parish && rule.isFor(cases[k], cases[k].day)) {
                count++;
            }
        }
        return count;
    }

    private int verdictCount() {
        int count = 0;
        for (int k = 0; k < caseCount; k++) {
            if (cases[k].judge != NONE) {
                count++;
            }
        }
        return count;
    }

    private int againstCustom() {
        int count = 0;
        for (int k = 0; k < caseCount; k++) {
            Dispute asked = cases[k];
            if (byCode(asked, asked.day) != customs.byTie(asked, asked.day)) {
                count++;
            }
        }
        return count;
    }

    private void askParishes(int matter, int rank, int facts, int amount) {
        Dispute probe = table.probe;
        probe.matter = matter;
        probe.rank = rank;
        probe.facts = facts;
        probe.amount = amount;
        for (int parish = 0; parish < PARISHES; parish++) {
            heldBy[parish] = customs.ofParish(parish, probe, day);
        }
    }

    private int mostHeld() {
        int most = 0;
        int share = GAP;
        for (int parish = 0; parish < PARISHES; parish++) {
            int told = heldBy[parish];
            int people = peopleWho(told);
            if (told >= 0 && (people > most || people == most && told < share)) {
                most = people;
                share = told;
            }
        }
        return share;
    }

    private int peopleWho(int told) {
        int people = 0;
        for (int parish = 0; parish < PARISHES; parish++) {
            if (heldBy[parish] == told) {
                people += peopleOf[parish];
            }
        }
        return people;
    }

    private boolean hasSoundWordings() {
        for (int parish = 0; parish < PARISHES; parish++) {
            if (realFacts(parish, FACT_SETS - 1) != FACT_SETS - 1) {
                return false;
            }
        }
        return true;
    }

    private boolean hasSoundVerdicts() {
        for (int k = 0; k < caseCount; k++) {
            Dispute judged = cases[k];
            if (judged.judge != NONE && (judged.verdict < CIRCLE || judged.verdict > MOST_SHARE)) {
                return false;
            }
        }
        return true;
    }

    private boolean hasSoundPledges() {
        for (int faction = 0; faction < FACTIONS; faction++) {
            int bill = houses.factions[faction].pledged;
            if (bill == NONE) {
                continue;
            }
            if (bill < 0 || bill >= code.count || code.articles[bill].state != BILL) {
                return false;
            }
        }
        return true;
    }

    private boolean hasSoundArticles() {
        for (int number = 0; number < code.count; number++) {
            Article article = code.articles[number];
            boolean hasEnd = article.end != NONE;
            if (article.clause.exceptionTo >= number
                    || hasEnd && article.end < DAYS_TO_FORCE
                    || article.state == LOST && article.isInForce(day)) {
                return false;
            }
        }
        return true;
    }

    private long withRules(long start) {
        long d = start;
        for (int rule = 0; rule < customs.count; rule++) {
            d = d * 31 + ofRule(rule, 5);
            for (int what = 7; what <= 11; what++) {
                d = d * 31 + ofRule(rule, what);
            }
        }
        return d;
    }

    private long withCases(long start) {
        long d = start;
        for (int dispute = 0; dispute < caseCount; dispute++) {
            d = d * 31 + ofCase(dispute, 4);
            for (int what = 6; what <= 13; what++) {
                d = d * 31 + ofCase(dispute, what);
            }
        }
        return d;
    }

    private long withArticles(long start) {
        long d = start;
        for (int article = 0; article < code.count; article++) {
            for (int what = 0; what <= 12; what++) {
                d = d * 31 + ofArticle(article, what);
            }
            for (int faction = 0; faction < FACTIONS; faction++) {
                d = d * 31 + liking(faction, article);
            }
        }
        return d;
    }

    private long withGrids(long start) {
        long d = start;
        for (int matter = 0; matter < MATTERS; matter++) {
            // Counted once for all seven answers: the walk is the dearest part of a digest.
            table.count(matter, 0, code, day);
            for (int what = 0; what <= 6; what++) {
                d = d * 31 + table.counts[what];
            }
        }
        return d;
    }

    /** A RULE of a PARISH. */
    private static final class Rule {
        int parish;
        int matter;
        int classes;
        int needs;
        int bars;
        int share;
        int proof;
        int least = 0;
        int most = MOST_AMOUNT;
        int sworn;
        int strength;

        boolean isFor(Dispute asked, int actDay) {
            return asked.matter == matter
                    && (classes >> asked.rank & 1) == 1
                    && (asked.facts & needs) == needs
                    && (asked.facts & bars) == 0
                    && asked.amount >= least
                    && asked.amount <= most
                    && actDay >= sworn;
        }
    }

    /** All RULES, and the TIE of each MATTER. */
    private static final class Customs {
        final Rule[] rules = new Rule[MOST_RULES];
        final int[] ties = new int[MATTERS];
        int count;

        Customs() {
            for (int k = 0; k < MOST_RULES; k++) {
                rules[k] = new Rule();
            }
        }

        int ofParish(int parish, Dispute asked, int actDay) {
            int told = GAP;
            int strongest = 0;
            for (int k = 0; k < count; k++) {
                Rule rule = rules[k];
                if (rule.parish != parish || !rule.isFor(asked, actDay)) {
                    continue;
                }
                if (rule.strength > strongest) {
                    strongest = rule.strength;
                    told = rule.share;
                } else if (rule.strength == strongest && told != rule.share) {
                    told = CLASH;
                }
            }
            return told;
        }

        int byTie(Dispute asked, int actDay) {
            int tie = ties[asked.matter];
            if (tie == 0) {
                return ofParish(asked.plaintiff, asked, actDay);
            }
            int defendants = ofParish(asked.defendant, asked, actDay);
            if (tie == 1) {
                return defendants;
            }
            return milder(ofParish(asked.plaintiff, asked, actDay), defendants);
        }

        private static int milder(int one, int two) {
            if (one >= 0 && two >= 0) {
                return Math.min(one, two);
            }
            if (one >= 0 || two >= 0) {
                return Math.max(one, two);
            }
            return one == CLASH || two == CLASH ? CLASH : GAP;
        }
    }

    /** A CASE; its DAY of the act is handed on beside it, as it may be asked as of another. */
    private static final class Dispute {
        int plaintiff;
        int defendant;
        int rank;
        int matter;
        int facts;
        int amount;
        int day;
        int judge = NONE;
        int verdict = NONE;

        int worth(int told) {
            return told < 0 ? 0 : amount * told / 100;
        }

        boolean isAlike(Dispute other) {
            return judge != NONE && other.judge != NONE
                    && matter == other.matter && rank == other.rank && facts == other.facts;
        }
    }

    /** What the TEXT of an ARTICLE says. */
    private static final class Clause {
        int matter;
        int classes;
        int wanted;
        int unwanted;
        int least = 0;
        int greatest = MOST_AMOUNT;
        int outcome;
        int exceptionTo = NONE;
        int limits;
        private final int[] limitSigns = new int[MOST_LIMITS];
        private final int[] limitNumbers = new int[MOST_LIMITS];

        boolean addLimit(int sign, int number) {
            if (limits >= MOST_LIMITS) {
                return false;
            }
            limitSigns[limits] = sign;
            limitNumbers[limits] = number;
            limits++;
            if (sign == '<') {
                greatest = Math.min(greatest, number - 1);
            } else {
                least = Math.max(least, number + 1);
            }
            return true;
        }

        int markOf(int limit) {
            if (limit < 0 || limit >= limits) {
                return 0;
            }
            return limitSigns[limit] == '<' ? limitNumbers[limit] : limitNumbers[limit] + 1;
        }

        boolean isFor(Dispute asked) {
            return asked.matter == matter
                    && (classes >> asked.rank & 1) == 1
                    && (asked.facts & wanted) == wanted
                    && (asked.facts & unwanted) == 0
                    && asked.amount >= least
                    && asked.amount <= greatest;
        }

        void appendTo(StringBuilder out) {
            out.append('m').append(matter).append('c');
            for (int rank = 0; rank < CLASSES; rank++) {
                if ((classes >> rank & 1) == 1) {
                    out.append(rank);
                }
            }
            appendFacts(out, '+', wanted);
            appendFacts(out, '-', unwanted);
            for (int k = 0; k < limits; k++) {
                out.append((char) limitSigns[k]).append(limitNumbers[k]);
            }
            out.append('=');
            if (outcome >= 0) {
                out.append(outcome);
            } else if (outcome == BY_CUSTOM) {
                out.append('%');
            } else {
                out.append('@').append(FIRST_REFERENCE - outcome);
            }
            if (exceptionTo != NONE) {
                out.append('x').append(exceptionTo);
            }
        }

        private static void appendFacts(StringBuilder out, char sign, int facts) {
            for (int fact = 0; fact < FACTS; fact++) {
                if ((facts >> fact & 1) == 1) {
                    out.append(sign).append(fact);
                }
            }
        }
    }

    /** An ARTICLE: its clause, what became of it, and the set of ARTICLES that are EXCEPTIONS to it. */
    private static final class Article {
        final int number;
        Clause clause = new Clause();
        int state = BILL;
        int from = NONE;
        int end = NONE;
        int exceptions;

        Article(int number) {
            this.number = number;
        }

        boolean isInForce(int asOf) {
            return from != NONE && asOf >= from && (end == NONE || asOf < end);
        }
    }

    /** All ARTICLES. Sets of them are sums of 2^k, as those of FACTS are. */
    private static final class Code {
        private static final int NOTHING = -4;

        final Article[] articles = new Article[MOST_ARTICLES];
        private final Customs customs;
        int count;
        private int generals;
        private int customary;

        Code(Customs customs) {
            this.customs = customs;
            for (int k = 0; k < MOST_ARTICLES; k++) {
                articles[k] = new Article(k);
            }
        }

        void put(int number, Clause clause) {
            if (number < 0 || number >= MOST_ARTICLES) {
                return;
            }
            articles[number].clause = clause;
            count = Math.max(count, number + 1);
            sortOut();
        }

        private void sortOut() {
            generals = 0;
            customary = 0;
            for (int k = 0; k < count; k++) {
                articles[k].exceptions = 0;
            }
            for (int k = 0; k < count; k++) {
                Clause clause = articles[k].clause;
                int to = clause.exceptionTo;
                if (to < 0 || to >= count) {
                    generals |= 1 << k;
                } else {
                    articles[to].exceptions |= 1 << k;
                }
                if (clause.outcome == BY_CUSTOM) {
                    customary |= 1 << k;
                }
            }
        }

        int countOf(int state) {
            int found = 0;
            for (int k = 0; k < count; k++) {
                if (articles[k].state == state) {
                    found++;
                }
            }
            return found;
        }

        int inForce(int asOf) {
            int set = 0;
            for (int k = 0; k < count; k++) {
                if (articles[k].isInForce(asOf)) {
                    set |= 1 << k;
                }
            }
            return set;
        }

        /** What the CODE tells with these ARTICLES in force, for an act of that day. */
        int told(int inForce, Dispute asked, int actDay) {
            int applying = applying(inForce, asked);
            if ((applying & generals) == 0) {
                return GAP;
            }
            // Asked once a case, as an ARTICLE may be come to on many ways; and only if one is left to custom.
            int custom = (inForce & customary) == 0 ? GAP : customs.byTie(asked, actDay);
            return toldByAll(applying & generals, inForce, applying, custom, 0, 0);
        }

        /** What one ARTICLE tells with these in force, whether it is one of them or not. */
        int toldBy(int number, int inForce, Dispute asked, int actDay) {
            int custom = customs.byTie(asked, actDay);
            return toldByOne(number, inForce, applying(inForce, asked), custom, 0, 0);
        }

        private int applying(int inForce, Dispute asked) {
            int set = 0;
            for (int k = 0; k < count; k++) {
                if ((inForce >> k & 1) == 1 && articles[k].clause.isFor(asked)) {
                    set |= 1 << k;
                }
            }
            return set;
        }

        private int toldByAll(int set, int inForce, int applying, int custom, int open, int depth) {
            int told = NOTHING;
            for (int k = 0; k < count; k++) {
                if ((set >> k & 1) == 0) {
                    continue;
                }
                int one = toldByOne(k, inForce, applying, custom, open, depth);
                if (one == CLASH || told != NOTHING && one != told) {
                    return CLASH;
                }
                told = one;
            }
            return told == NOTHING ? GAP : told;
        }

        private int toldByOne(int number, int inForce, int applying, int custom, int open, int depth) {
            if (number < 0 || number >= count || depth > MOST_ARTICLES || (open >> number & 1) == 1) {
                return CIRCLE;
            }
            Article article = articles[number];
            int opened = open | 1 << number;
            int exceptions = article.exceptions & applying;
            if (exceptions != 0) {
                return toldByAll(exceptions, inForce, applying, custom, opened, depth + 1);
            }
            int outcome = article.clause.outcome;
            if (outcome >= 0) {
                return outcome;
            }
            if (outcome == BY_CUSTOM) {
                return custom;
            }
            int other = FIRST_REFERENCE - outcome;
            if ((inForce >> other & 1) == 0) {
                return GAP;
            }
            return toldByOne(other, inForce, applying, custom, opened, depth + 1);
        }
    }

    /** A FACTION, with its SEATS in each HOUSE. */
    private static final class Faction {
        final int[] moods = new int[MATTERS];
        final int[] seats = new int[HOUSES];
        int taste;
        int pledged = NONE;

        Faction() {
            for (int house = 0; house < HOUSES; house++) {
                seats[house] = 5;
            }
        }

        int likes(Clause clause) {
            int mood = moods[clause.matter];
            return clause.outcome < 0 ? mood : mood + taste * (clause.outcome - 50) / 25;
        }

        /** 1 for it, -1 against it, 0 neither. */
        int stance(Article article, boolean isRepeal) {
            if (!isRepeal && pledged == article.number) {
                return 1;
            }
            int side = Integer.compare(likes(article.clause), 0);
            return isRepeal ? -side : side;
        }
    }

    /** The HOUSES and the FACTIONS that sit in them. */
    private static final class Houses {
        final Faction[] factions = new Faction[FACTIONS];

        Houses() {
            for (int k = 0; k < FACTIONS; k++) {
                factions[k] = new Faction();
            }
        }

        int allSeats(int house) {
            int sum = 0;
            for (int k = 0; k < FACTIONS; k++) {
                sum += factions[k].seats[house];
            }
            return sum;
        }

        int pledgedFor(int bill) {
            int count = 0;
            for (int k = 0; k < FACTIONS; k++) {
                if (factions[k].pledged == bill) {
                    count++;
                }
            }
            return count;
        }

        int balance(int house, Article article, boolean isRepeal) {
            int sum = 0;
            for (int k = 0; k < FACTIONS; k++) {
                sum += factions[k].seats[house] * factions[k].stance(article, isRepeal);
            }
            return sum;
        }

        int inFavour(Article article, boolean isRepeal) {
            int count = 0;
            for (int house = 0; house < HOUSES; house++) {
                if (balance(house, article, isRepeal) > 0) {
                    count++;
                }
            }
            return count;
        }

        void release(Article article) {
            int matter = article.clause.matter;
            for (int k = 0; k < FACTIONS; k++) {
                Faction faction = factions[k];
                if (faction.pledged == article.number) {
                    faction.pledged = NONE;
                    faction.moods[matter] = Math.max(faction.moods[matter] - 1, LEAST_MOOD);
                }
            }
        }
    }

    /** The TEXT that is fed, and how it is read. */
    private static final class Draft {
        final int[] signs = new int[MOST_SIGNS];
        int length;
        private int place;

        /** Whether the TEXT is an ARTICLE that names smaller numbers than that one; the clause is filled. */
        boolean readInto(Clause clause, int number) {
            place = 0;
            return takeMatter(clause)
                    && takeClasses(clause)
                    && takeConditions(clause)
                    && takeOutcome(clause, number)
                    && takeException(clause, number)
                    && nextSign() == NONE;
        }

        private boolean takeMatter(Clause clause) {
            if (!takeSign('m')) {
                return false;
            }
            clause.matter = takeDigit(MATTERS);
            return clause.matter != NONE;
        }

        private boolean takeClasses(Clause clause) {
            if (!takeSign('c')) {
                return false;
            }
            int last = NONE;
            for (int k = 0; k < CLASSES; k++) {
                int rank = takeDigit(CLASSES);
                if (rank == NONE) {
                    break;
                }
                if (rank <= last) {
                    return false;
                }
                clause.classes |= 1 << rank;
                last = rank;
            }
            return last != NONE;
        }

        private boolean takeConditions(Clause clause) {
            for (int k = 0; k < MOST_SIGNS; k++) {
                if (takeSign('=')) {
                    return true;
                }
                if (!takeCondition(clause)) {
                    return false;
                }
            }
            return false;
        }

        private boolean takeCondition(Clause clause) {
            int sign = nextSign();
            if (sign == '+' || sign == '-') {
                place++;
                int fact = takeDigit(FACTS);
                if (fact == NONE) {
                    return false;
                }
                if (sign == '+') {
                    clause.wanted |= 1 << fact;
                } else {
                    clause.unwanted |= 1 << fact;
                }
                return true;
            }
            if (sign == '<' || sign == '>') {
                place++;
                int number = takeNumber(MOST_AMOUNT);
                return number != NONE && clause.addLimit(sign, number);
            }
            return false;
        }

        private boolean takeOutcome(Clause clause, int number) {
            if (takeSign('%')) {
                clause.outcome = BY_CUSTOM;
                return true;
            }
            if (takeSign('@')) {
                int other = takeNumber(number - 1);
                clause.outcome = FIRST_REFERENCE - other;
                return other != NONE;
            }
            clause.outcome = takeNumber(MOST_SHARE);
            return clause.outcome != NONE;
        }

        private boolean takeException(Clause clause, int number) {
            if (!takeSign('x')) {
                return true;
            }
            clause.exceptionTo = takeNumber(number - 1);
            return clause.exceptionTo != NONE;
        }

        /** The next sign that is no blank, or NONE at the end. */
        private int nextSign() {
            while (place < length && signs[place] == ' ') {
                place++;
            }
            return place < length ? signs[place] : NONE;
        }

        private boolean takeSign(int sign) {
            if (nextSign() != sign) {
                return false;
            }
            place++;
            return true;
        }

        private int takeDigit(int kinds) {
            int sign = nextSign();
            if (sign < '0' || sign >= '0' + kinds) {
                return NONE;
            }
            place++;
            return sign - '0';
        }

        // A fourth digit, or one behind a blank, is left standing: nothing that may follow takes it.
        private int takeNumber(int most) {
            int value = takeDigit(10);
            for (int k = 1; k < 3; k++) {
                if (value == NONE || place >= length || signs[place] == ' ') {
                    break;
                }
                int digit = takeDigit(10);
                if (digit == NONE) {
                    break;
                }
                value = value * 10 + digit;
            }
            return value > most ? NONE : value;
        }
    }

    /** The GRID: one CASE after the other in its order, and what was counted of them. */
    private static final class Grid {
        final Dispute probe = new Dispute();
        final int[] counts = new int[7];
        private final int[] marks = new int[MOST_MARKS];
        private int markCount;
        private int mark;

        void lay(int matter, int parish, Code code) {
            markCount = 0;
            addMark(0);
            for (int k = 0; k < code.count; k++) {
                Article article = code.articles[k];
                if (article.clause.matter == matter && article.state != LOST) {
                    addMarksOf(article.clause);
                }
            }
            probe.plaintiff = parish;
            probe.defendant = parish;
            probe.matter = matter;
            probe.rank = 0;
            probe.facts = 0;
            mark = 0;
            probe.amount = marks[0];
        }

        private void addMarksOf(Clause clause) {
            for (int k = 0; k < clause.limits; k++) {
                addMark(clause.markOf(k));
            }
        }

        private void addMark(int amount) {
            if (amount > MOST_AMOUNT || markCount >= MOST_MARKS) {
                return;
            }
            int place = 0;
            while (place < markCount && marks[place] < amount) {
                place++;
            }
            if (place < markCount && marks[place] == amount) {
                return;
            }
            for (int k = markCount; k > place; k--) {
                marks[k] = marks[k - 1];
            }
            marks[place] = amount;
            markCount++;
        }

        int size() {
            return CLASSES * FACT_SETS * markCount;
        }

        void step() {
            mark++;
            if (mark >= markCount) {
                mark = 0;
                probe.facts++;
            }
            if (probe.facts == FACT_SETS) {
                probe.facts = 0;
                probe.rank++;
            }
            probe.amount = marks[mark];
        }

        void count(int matter, int parish, Code code, int day) {
            lay(matter, parish, code);
            for (int k = 0; k < counts.length; k++) {
                counts[k] = 0;
            }
            counts[4] = NONE;
            counts[5] = NONE;
            int inForce = code.inForce(day);
            int size = size();
            for (int place = 0; place < size; place++) {
                add(code.told(inForce, probe, day), place);
                step();
            }
        }

        private void add(int told, int place) {
            counts[0]++;
            if (told >= 0) {
                counts[6] += told;
            } else if (told == GAP) {
                counts[1]++;
                counts[4] = counts[4] == NONE ? place : counts[4];
            } else if (told == CLASH) {
                counts[2]++;
                counts[5] = counts[5] == NONE ? place : counts[5];
            } else {
                counts[3]++;
            }
        }
    }
}
