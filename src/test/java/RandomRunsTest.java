/**
 * Runs of calls that a fixed sequence picks, many of them with wrong values: every answer is that of the plain
 * realm, and every refusal the one that is named first. (The sequence is the same each time.)
 */
public final class RandomRunsTest {
    private static final int RUNS = 400;

    private final OnecodeChancery x = new OnecodeChancery();
    private final PlainRealm plain = new PlainRealm();
    private final int run;
    private long seed;
    private int calls;

    private RandomRunsTest(int run) {
        this.run = run;
        this.seed = run * 7919L + 12345;
    }

    public static void main(String[] args) {
        for (int run = 0; run < RUNS; run++) {
            new RandomRunsTest(run).play();
        }
        Checks.end();
    }

    private int pick(int count) {
        seed = seed * 6364136223846793005L + 1442695040888963407L;
        return (int) ((seed >>> 33) % count);
    }

    /** Mostly one of 0 to count - 1; now and then one just outside, or far off. */
    private int near(int count) {
        switch (pick(60)) {
            case 0: return -1;
            case 1: return count;
            case 2: return pick(2) == 0 ? Integer.MAX_VALUE : Integer.MIN_VALUE;
            default: return count <= 0 ? 0 : pick(count);
        }
    }

    private int between(int least, int most) {
        switch (pick(60)) {
            case 0: return least - 1;
            case 1: return most + 1;
            case 2: return pick(2) == 0 ? least : most;
            default: return least + pick(most - least + 1);
        }
    }

    private static boolean in(int value, int least, int most) {
        return value >= least && value <= most;
    }

    private void due(String what, boolean index, boolean argument, boolean state, Checks.Call got, Checks.Call want) {
        calls++;
        Object outcome = Checks.outcome(got);
        Object wanted = !index ? Checks.INDEX.getName() : !argument ? Checks.ARGUMENT.getName()
            : !state ? Checks.STATE.getName() : want.answer();
        Checks.same("run " + run + ", call " + calls + ", " + what, outcome, wanted);
    }

    private void play() {
        boolean isDeep = run % 4 == 0;
        while (calls < 500) {
            int kind = pick(100);
            if (kind < 12) {
                tellRealm();
            } else if (kind < 22) {
                tellRule();
            } else if (kind < 30) {
                tellCase();
            } else if (kind < 48) {
                tellText(isDeep);
            } else if (kind < 64) {
                tellHouses();
            } else if (kind < 72) {
                tellJudges();
            } else if (kind < 96) {
                askSmall();
            } else {
                askLarge();
            }
        }
        askAll();
    }

    private void tellRealm() {
        int parish = near(6);
        int kind = pick(4);
        if (kind == 0) {
            int people = between(1, 99);
            due("people", in(parish, 0, 5), in(people, 1, 99), true, () -> x.people(parish, people), () -> {
                int before = plain.people[parish];
                plain.people[parish] = people;
                return before;
            });
        } else if (kind == 1) {
            int one = near(6);
            int two = near(6);
            due("swap", in(parish, 0, 5), in(one, 0, 5) && in(two, 0, 5), true, () -> x.swap(parish, one, two), () -> {
                java.util.Collections.swap(plain.words.get(parish), one, two);
                return plain.words.get(parish).get(one);
            });
        } else if (kind == 2) {
            int matter = near(4);
            int tie = near(3);
            due("tie", in(matter, 0, 3), in(tie, 0, 2), true, () -> x.tie(matter, tie), () -> {
                int before = plain.ties[matter];
                plain.ties[matter] = tie;
                return before;
            });
        } else {
            int days = pick(3) > 0 ? 10 + pick(40) : between(1, 400);
            due("pass", true, in(days, 1, 400), plain.day + days <= 3000, () -> x.pass(days), () -> plain.day += days);
        }
    }

    private void tellRule() {
        if (pick(3) == 0) {
            int rule = near(plain.rules.size());
            int least = pick(2) * between(0, 999);
            int most = pick(3) == 0 ? between(0, 999) : Math.max(least, 500);
            due("limit", in(rule, 0, plain.rules.size() - 1), in(least, 0, 999) && in(most, least, 999), true,
                () -> x.limit(rule, least, most), () -> {
                    plain.ranges.set(rule, new int[] {least, most});
                    return plain.rules.get(rule).strength();
                });
            return;
        }
        int parish = near(3 + pick(4));
        int matter = near(2 + pick(3));
        int classes = pick(2) == 0 ? 15 : near(16);
        int needs = pick(2) == 0 ? 0 : near(64) & near(64);
        int bars = pick(2) == 0 ? 0 : pick(10) == 0 ? near(64) : near(64) & ~needs & pick(64);
        int share = pick(3) * 10 + pick(2) * between(0, 80);
        int proof = between(1, 5);
        due("rule", in(parish, 0, 5) && in(matter, 0, 3), in(classes, 1, 15) && in(needs, 0, 63) && in(bars, 0, 63)
            && (needs & bars) == 0 && in(share, 0, 100) && in(proof, 1, 5), plain.rules.size() < 40,
            () -> x.rule(parish, matter, classes, needs, bars, share, proof), () -> {
                plain.rules.add(
                    new PlainRealm.Sworn(parish, matter, classes, needs, bars, share, proof, plain.day));
                plain.ranges.add(new int[] {0, 999});
                return plain.rules.size() - 1;
            });
    }

    private void tellCase() {
        int plaintiff = near(4);
        int defendant = near(6);
        int rank = near(4);
        int matter = near(2 + pick(3));
        int facts = pick(2) == 0 ? pick(4) : near(64);
        int amount = pick(3) == 0 ? 100 : between(0, 999);
        int ago = pick(3) == 0 ? between(0, plain.day) : 0;
        due("dispute", in(plaintiff, 0, 5) && in(defendant, 0, 5) && in(rank, 0, 3) && in(matter, 0, 3),
            in(facts, 0, 63) && in(amount, 0, 999) && in(ago, 0, plain.day), plain.acts.size() < 24,
            () -> x.dispute(plaintiff, defendant, rank, matter, facts, amount, ago), () -> {
                int real = 0;
                for (int fact = 0; fact < 6; fact++) {
                    real |= (facts >> fact & 1) << plain.words.get(plaintiff).get(fact);
                }
                plain.acts.add(new PlainRealm.Act(plaintiff, defendant, rank, matter, real, amount, plain.day - ago));
                return plain.acts.size() - 1;
            });
    }

    private void tellText(boolean isDeep) {
        if (pick(12) == 0) {
            feed(between(32, 126));
        }
        StringBuilder text = new StringBuilder("m" + (isDeep ? pick(10) / 9 : pick(4)) + "c");
        int classes = isDeep ? 15 : 1 + pick(15);
        for (int rank = 0; rank < 4; rank++) {
            text.append((classes >> rank & 1) == 1 ? String.valueOf(rank) : "");
        }
        int conditions = pick(isDeep ? 2 : 4);
        for (int k = 0; k < conditions; k++) {
            text.append("+-+-<>".charAt(pick(6)));
            text.append("<>".indexOf(text.charAt(text.length() - 1)) < 0 ? pick(6) : pick(4) * 50);
        }
        int count = plain.articles.size();
        int outcome = pick(isDeep ? 6 : 4);
        text.append('=').append(outcome < 2 ? String.valueOf(pick(3) * 30) : outcome == 2 ? "%" : "@" + pick(count + 1));
        if (pick(isDeep ? 3 : 2) > 0) {
            text.append('x').append(pick(count + 1));
        }
        if (pick(6) == 0) {
            int place = pick(text.length());
            text.setCharAt(place, " 0123456789mcx=@%+-<>".charAt(pick(21)));
        }
        for (int k = pick(4); k > 0; k--) {
            text.insert(pick(text.length() + 1), ' ');
        }
        for (int k = 0; k < text.length(); k++) {
            feed(text.charAt(k));
        }
        if (pick(6) == 0 && count > 0) {
            int bill = near(count);
            due("amend by " + text, in(bill, 0, count - 1), true, isBill(bill), () -> x.amend(bill), () -> plain.amend(bill));
        } else {
            due("write " + text, true, true, count < 24, () -> x.write(), () -> plain.write());
            if (plain.articles.size() > count && pick(3) > 0) {
                carry(count);
            }
        }
    }

    private void feed(int sign) {
        due("feed", true, in(sign, 32, 126), plain.fed.length() < 60, () -> x.feed(sign), () -> {
            plain.fed.append((char) sign);
            return plain.fed.length();
        });
    }

    private boolean isBill(int number) {
        return in(number, 0, plain.states.size() - 1) && plain.states.get(number) == 0;
    }

    /** Sees to it that much is IN FORCE: without that the CODE would mostly be silent. */
    private void carry(int bill) {
        for (int faction = 0; faction < 3; faction++) {
            if (!plain.pledges.containsKey(faction)) {
                pledge(faction, bill);
            }
        }
        due("vote", true, true, isBill(bill), () -> x.vote(bill), () -> plain.vote(bill));
    }

    private void pledge(int faction, int bill) {
        due("pledge", in(faction, 0, 3) && in(bill, 0, plain.articles.size() - 1), true,
            isBill(bill) && !plain.pledges.containsKey(faction), () -> x.pledge(faction, bill), () -> {
                plain.pledges.put(faction, bill);
                return (int) plain.pledges.values().stream().filter(b -> b == bill).count();
            });
    }

    private void tellHouses() {
        int faction = near(4);
        int count = plain.articles.size();
        int article = near(count);
        int kind = pick(8);
        if (kind == 0) {
            int house = near(3);
            int seats = between(0, 60);
            due("seats", in(house, 0, 2) && in(faction, 0, 3), in(seats, 0, 60), true, () -> x.seats(house, faction, seats),
                () -> {
                    plain.seats[house][faction] = seats;
                    return java.util.Arrays.stream(plain.seats[house]).sum();
                });
        } else if (kind <= 2) {
            int matter = near(4);
            int mood = between(-5, 5);
            due("mood", in(faction, 0, 3) && in(matter, 0, 3), in(mood, -5, 5), true, () -> x.mood(faction, matter, mood),
                () -> {
                    int before = plain.moods[faction][matter];
                    plain.moods[faction][matter] = mood;
                    return before;
                });
        } else if (kind == 3) {
            int taste = between(-3, 3);
            due("taste", in(faction, 0, 3), in(taste, -3, 3), true, () -> x.taste(faction, taste), () -> {
                int before = plain.tastes[faction];
                plain.tastes[faction] = taste;
                return before;
            });
        } else if (kind == 4) {
            pledge(faction, article);
        } else if (kind <= 6) {
            due("vote", in(article, 0, count - 1), true, isBill(article), () -> x.vote(article), () -> plain.vote(article));
        } else {
            due("repeal", in(article, 0, count - 1), true, in(article, 0, count - 1) && plain.states.get(article) == 1,
                () -> x.repeal(article), () -> plain.repeal(article));
        }
    }

    private void tellJudges() {
        int judge = near(4);
        int dispute = near(plain.acts.size());
        boolean isThere = in(dispute, 0, plain.acts.size() - 1);
        int kind = pick(4);
        if (kind == 0) {
            int way = near(4);
            due("way", in(judge, 0, 3), in(way, 0, 3), true, () -> x.way(judge, way), () -> {
                int before = plain.ways[judge];
                plain.ways[judge] = way;
                return before;
            });
        } else if (kind == 1) {
            due("appeal", isThere, true, plain.verdictOf.containsKey(dispute), () -> x.appeal(dispute),
                () -> plain.appeal(dispute));
        } else if (kind == 2) {
            due("judge", isThere && in(judge, 0, 3), true, !plain.verdictOf.containsKey(dispute),
                () -> x.judge(dispute, judge), () -> plain.judge(dispute, judge));
        } else {
            due("call", true, true, true, () -> x.call(), () -> ++plain.refused);
        }
    }

    private void askSmall() {
        int number = near(24);
        int what = near(14);
        int rank = near(4);
        int other = near(24);
        int articles = plain.articles.size();
        boolean isCase = in(number, 0, plain.acts.size() - 1);
        switch (pick(14)) {
            case 0:
                due("means", in(rank, 0, 5) && in(what, 0, 5), true, true, () -> x.means(rank, what),
                    () -> plain.words.get(rank).get(what));
                break;
            case 1:
                due("ofRule", in(number, 0, plain.rules.size() - 1), in(what, 0, 11), true, () -> x.ofRule(number, what),
                    () -> plain.ofRule(number, what));
                break;
            case 2: case 3: case 4:
                due("ofCase " + what, isCase, in(what, 0, 13), true, () -> x.ofCase(number, what),
                    () -> plain.ofCase(number, what));
                break;
            case 5:
                due("tells", isCase && in(other, 0, articles - 1), true, true, () -> x.tells(number, other),
                    () -> plain.tells(other, plain.acts.get(number), -1, java.util.Set.of()));
                break;
            case 6:
                due("ofArticle " + what, in(number, 0, articles - 1), in(what, 0, 12), true, () -> x.ofArticle(number, what),
                    () -> plain.ofArticle(number, what));
                break;
            case 7:
                due("liking", in(rank, 0, 3) && in(number, 0, articles - 1), true, true, () -> x.liking(rank, number),
                    () -> plain.liking(rank, number));
                break;
            case 8:
                due("ofFaction", in(rank, 0, 3), in(what, 0, 8), true, () -> x.ofFaction(rank, what),
                    () -> plain.ofFaction(rank, what));
                break;
            case 9:
                due("realm " + what, true, in(what, 0, 13), true, () -> x.realm(what), () -> plain.realm(what));
                break;
            case 10:
                due("text", in(number, 0, articles - 1), true, true, () -> x.text(number),
                    () -> plain.articles.get(number).text());
                break;
            case 11:
                boolean isRepeal = pick(2) == 0;
                due("wouldVote", in(number, 0, articles - 1) && in(rank, 0, 2), true, true,
                    () -> x.wouldVote(number, rank, isRepeal), () -> plain.wouldVote(number, rank, isRepeal));
                break;
            case 12:
                due("wouldJudge", isCase && in(rank, 0, 3), true, true, () -> x.wouldJudge(number, rank),
                    () -> plain.wouldJudge(number, rank));
                break;
            default:
                due("without", isCase && in(other, 0, articles - 1), true, true, () -> x.without(number, other),
                    () -> plain.code(plain.acts.get(number), other));
                break;
        }
    }

    private void askLarge() {
        int matter = near(4);
        int parish = near(6);
        int article = near(plain.articles.size());
        switch (pick(6)) {
            case 0:
                int what = near(7);
                due("grid " + what, in(matter, 0, 3) && in(parish, 0, 5), in(what, 0, 6), true,
                    () -> x.grid(matter, parish, what), () -> plain.grid(matter, parish, what));
                break;
            case 1:
                due("isDead", in(article, 0, plain.articles.size() - 1) && in(parish, 0, 5), true, true,
                    () -> x.isDead(article, parish), () -> plain.isDead(article, parish));
                break;
            case 2:
                due("gain", in(matter, 0, 3), true, true, () -> x.gain(matter), () -> plain.gain(matter));
                break;
            case 3:
                int rank = near(4);
                int facts = near(64);
                int amount = between(0, 999);
                int part = near(4);
                due("held", in(matter, 0, 3) && in(rank, 0, 3), in(facts, 0, 63) && in(amount, 0, 999) && in(part, 0, 3),
                    true, () -> x.held(matter, rank, facts, amount, part),
                    () -> plain.held(matter, rank, facts, amount, part));
                break;
            case 4:
                due("uniformity", true, true, true, () -> x.uniformity(), () -> plain.uniformity());
                break;
            default:
                due("isSound", true, true, true, () -> x.isSound(), () -> true);
                break;
        }
    }

    /**
     * At the end of a run, everything that can be asked. (These are more than the 512 calls that the document speaks
     * of; the class counts none and answers on.)
     */
    private void askAll() {
        Checks.same("run " + run + ", digest", x.digest(), WholeTest.digestOf(x));
        for (int matter = 0; matter < 4; matter++) {
            int parish = pick(6);
            for (int what = 0; what <= 6; what++) {
                Checks.same("run " + run + ", grid " + what, x.grid(matter, parish, what),
                    plain.grid(matter, parish, what));
            }
        }
        for (int what = 0; what <= 13; what++) {
            Checks.same("run " + run + ", realm " + what, x.realm(what), plain.realm(what));
            for (int dispute = 0; dispute < plain.acts.size(); dispute++) {
                Checks.same("run " + run + ", ofCase " + what, x.ofCase(dispute, what), plain.ofCase(dispute, what));
            }
        }
        for (int article = 0; article < plain.articles.size(); article++) {
            Checks.same("run " + run + ", text", x.text(article), plain.articles.get(article).text());
            Checks.same("run " + run + ", isDead", x.isDead(article, 0), plain.isDead(article, 0));
            for (int dispute = 0; dispute < plain.acts.size(); dispute++) {
                Checks.same("run " + run + ", tells", x.tells(dispute, article),
                    plain.tells(article, plain.acts.get(dispute), -1, java.util.Set.of()));
                Checks.same("run " + run + ", without", x.without(dispute, article),
                    plain.code(plain.acts.get(dispute), article));
            }
        }
    }
}
