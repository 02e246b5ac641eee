/** The bounds that the "Terms" name for the realm and its customs (sections 0 and 1), one method a sentence. */
public final class RealmBoundsTest {
    public static void main(String[] args) {
        roundedTowardZero();
        productsFirst();
        noneIsMinusOne();
        setsAreSums();
        dayFromZeroTo3000();
        peopleAtFirst();
        wordingAtFirst();
        wordingAlwaysAllSix();
        atMost24Cases();
        factsInWordsOfThePlaintiff();
        factsOfThatTime();
        amountsOfCases();
        daysOfActs();
        atMost40Rules();
        amountsOfANewRule();
        swornOnThatDay();
        holdsForItsMatter();
        holdsForItsClasses();
        holdsWithAllItNeeds();
        holdsWithNoneItBars();
        holdsForAmountsInBetween();
        holdsFromItsDayOn();
        holdsForCasesOfThePlaintiff();
        customAsOfTheDayOfTheAct();
        strengthOfRules();
        greatestStrengthTells();
        sameShareOrClash();
        gapWithoutAny();
        tieAtFirst();
        tieOfPlaintiffAndDefendant();
        milderOfBoth();
        milderWithOneShare();
        milderWithNone();
        refusedAreCounted();
        heldByMost();
        heldByNone();
        heldByOneParish();
        heldForSuchACase();
        for512Calls();
        Checks.end();
    }

    private static void roundedTowardZero() {
        Checks.sentence("what is divided is rounded toward 0");
        OnecodeChancery x = new OnecodeChancery();
        x.taste(0, 1);
        int[] shares = {0, 1, 24, 25, 26, 49, 50, 51, 74, 75, 76, 99, 100};
        int[] due = {-2, -1, -1, -1, 0, 0, 0, 0, 0, 1, 1, 1, 2};
        for (int k = 0; k < shares.length; k++) {
            Checks.write(x, "m0c0=" + shares[k]);
            Checks.same("LIKING of a SHARE of " + shares[k], x.liking(0, k), due[k]);
        }
        OnecodeChancery y = new OnecodeChancery();
        y.rule(0, 0, 1, 0, 0, 1, 1);
        y.rule(0, 0, 2, 0, 0, 99, 1);
        y.dispute(0, 0, 0, 0, 0, 99, 0);
        y.dispute(0, 0, 1, 0, 0, 1, 0);
        Checks.same("99 hundredths", y.gain(0), 0);
        Checks.same("99 hundredths the other way", y.gain(1), 0);
        y.dispute(0, 0, 1, 0, 0, 101, 0);
        Checks.same("99.99", y.gain(1), -99);
    }

    private static void productsFirst() {
        Checks.sentence("products come ahead of divisions");
        OnecodeChancery x = new OnecodeChancery();
        x.taste(0, 3);
        x.taste(1, 2);
        Checks.write(x, "m0c0=59");
        Checks.same("3 * 9 / 25", x.liking(0, 0), 1);
        Checks.same("2 * 9 / 25", x.liking(1, 0), 0);
        Checks.write(x, "m0c0=37");
        Checks.same("2 * -13 / 25", x.liking(1, 1), -1);
        OnecodeChancery y = new OnecodeChancery();
        y.rule(0, 0, 1, 0, 0, 50, 1);
        y.dispute(0, 0, 0, 0, 0, 3, 0);
        Checks.same("3 * 50 / 100", y.gain(0), -1);
    }

    private static void noneIsMinusOne() {
        Checks.sentence("NONE is -1");
        OnecodeChancery x = new OnecodeChancery();
        Checks.same("no ARTICLE", x.write(), -1);
        Checks.write(x, "m0c0=1");
        x.dispute(0, 0, 0, 0, 0, 0, 0);
        Checks.same("no JUDGE", x.ofCase(0, 12), -1);
        Checks.same("no VERDICT", x.ofCase(0, 13), -1);
        Checks.same("no EXCEPTION", x.ofArticle(0, 7), -1);
        Checks.same("no DAY", x.ofArticle(0, 9), -1);
        Checks.same("no end", x.ofArticle(0, 10), -1);
        Checks.same("no BILL", x.ofFaction(0, 5), -1);
        Checks.same("no CLASH in the GRID", x.grid(0, 0, 5), -1);
        OnecodeChancery y = new OnecodeChancery();
        Checks.enact(y, "m0c0123=1");
        y.pass(30);
        Checks.same("no GAP in the GRID", y.grid(0, 0, 4), -1);
    }

    private static void setsAreSums() {
        Checks.sentence("a set is the sum of 2^k for the number k of each");
        for (int fact = 0; fact < 6; fact++) {
            OnecodeChancery x = new OnecodeChancery();
            x.rule(0, 0, 1 << fact % 4, 1 << fact, 0, 9, 1);
            Checks.write(x, "m0c" + fact % 4 + "+" + fact + "-" + (5 - fact) + "=1");
            Checks.same("CLASSES", x.ofArticle(0, 1), 1 << fact % 4);
            Checks.same("FACTS behind +", x.ofArticle(0, 2), 1 << fact);
            Checks.same("FACTS behind -", x.ofArticle(0, 3), 32 >> fact);
            x.dispute(0, 0, fact % 4, 0, 1 << fact, 0, 0);
            x.dispute(0, 0, fact % 4, 0, 63 - (1 << fact), 0, 0);
            Checks.same("a RULE that NEEDS that FACT", x.ofCase(0, 7), 9);
            Checks.same("without that FACT", x.ofCase(1, 7), -1);
        }
    }

    private static void dayFromZeroTo3000() {
        Checks.sentence("DAY is 0 at first, 3000 at most");
        OnecodeChancery x = new OnecodeChancery();
        Checks.same("DAY at first", x.realm(0), 0);
        int due = 0;
        for (int days : new int[] {1, 399, 400, 400, 400, 400, 400, 400, 199, 1}) {
            due += days;
            Checks.same("pass(" + days + ")", x.pass(days), due);
            Checks.same("DAY", x.realm(0), due);
        }
        Checks.refuses("a DAY more", Checks.STATE, () -> x.pass(1));
        Checks.same("DAY at most", x.realm(0), 3000);
        Checks.enact(x, "m0c0=1");
        Checks.same("what is voted for on the last DAY", x.ofArticle(0, 9), 3030);
        Checks.same("is not IN FORCE", x.ofArticle(0, 11), 0);
        Checks.strike(x, 0);
        Checks.same("its end", x.ofArticle(0, 10), 3030);
        x.dispute(0, 0, 0, 0, 0, 1, 3000);
        Checks.same("an act of the first DAY", x.ofCase(0, 6), 0);
        Checks.same("it is sound", x.isSound(), true);
    }

    private static void peopleAtFirst() {
        Checks.sentence("PEOPLE (1 to 99; 10 at first)");
        OnecodeChancery x = new OnecodeChancery();
        Checks.same("all PEOPLE", x.held(0, 0, 0, 0, 3), 60);
        for (int parish = 0; parish < 6; parish++) {
            Checks.same("PEOPLE at first", x.people(parish, 99), 10);
        }
        Checks.same("all PEOPLE", x.held(0, 0, 0, 0, 3), 594);
        for (int parish = 0; parish < 6; parish++) {
            Checks.same("PEOPLE then", x.people(parish, 1), 99);
        }
        Checks.same("all PEOPLE", x.held(0, 0, 0, 0, 3), 6);
    }

    private static void wordingAtFirst() {
        Checks.sentence("its WORDING has k for k at first");
        OnecodeChancery x = new OnecodeChancery();
        for (int parish = 0; parish < 6; parish++) {
            for (int fact = 0; fact < 6; fact++) {
                Checks.same("means(" + parish + ", " + fact + ")", x.means(parish, fact), fact);
            }
            Checks.same("a CASE", x.dispute(parish, 0, 0, 0, 8 * parish + 21, 0, 0), parish);
            Checks.same("its FACTS", x.ofCase(parish, 4), 8 * parish + 21);
        }
    }

    private static void wordingAlwaysAllSix() {
        Checks.sentence("a WORDING has always all six FACTS, each once");
        OnecodeChancery x = new OnecodeChancery();
        int[] due = {0, 1, 2, 3, 4, 5};
        for (int one = 0; one < 6; one++) {
            for (int two = 0; two < 6; two++) {
                int first = due[one];
                due[one] = due[two];
                due[two] = first;
                Checks.same("swap(4, " + one + ", " + two + ")", x.swap(4, one, two), due[one]);
                int all = 0;
                for (int fact = 0; fact < 6; fact++) {
                    Checks.same("means(4, " + fact + ")", x.means(4, fact), due[fact]);
                    all |= 1 << x.means(4, fact);
                }
                Checks.same("all of them", all, 63);
            }
        }
        Checks.same("another PARISH", x.means(3, 0) + 6 * x.means(5, 5), 30);
        Checks.same("all FACTS in any words", x.dispute(4, 0, 0, 0, 63, 0, 0), 0);
        Checks.same("are all FACTS", x.ofCase(0, 4), 63);
        x.dispute(4, 0, 0, 0, 0, 0, 0);
        Checks.same("none are none", x.ofCase(1, 4), 0);
        Checks.same("it is sound", x.isSound(), true);
    }

    private static void atMost24Cases() {
        Checks.sentence("CASES: at most 24, numbered from 0");
        OnecodeChancery x = new OnecodeChancery();
        for (int k = 0; k < 24; k++) {
            Checks.same("CASES", x.realm(2), k);
            int number = k;
            Checks.refuses("ofCase(" + k + ", 0) ahead of it", Checks.INDEX, () -> x.ofCase(number, 0));
            Checks.same("dispute", x.dispute(k % 6, 5 - k % 6, k % 4, k / 6, k, 41 * k, 0), k);
        }
        Checks.refuses("the 25th", Checks.STATE, () -> x.dispute(0, 0, 0, 0, 0, 0, 0));
        Checks.same("CASES", x.realm(2), 24);
        for (int k = 0; k < 24; k++) {
            int[] due = {k % 6, 5 - k % 6, k % 4, k / 6, k, 41 * k, 0};
            for (int what = 0; what < due.length; what++) {
                Checks.same("ofCase(" + k + ", " + what + ")", x.ofCase(k, what), due[what]);
            }
        }
    }

    private static void factsInWordsOfThePlaintiff() {
        Checks.sentence("FACTS (a set, told in the words of the plaintiff's PARISH)");
        int[] words = {5, 0, 1, 2, 3, 4};
        for (int facts = 0; facts < 64; facts++) {
            OnecodeChancery x = new OnecodeChancery();
            for (int word = 0; word < 5; word++) {
                x.swap(2, 0, word + 1);
            }
            for (int word = 0; word < 6; word++) {
                Checks.same("the word " + word, x.means(2, word), words[word]);
            }
            int due = 0;
            for (int word = 0; word < 6; word++) {
                due += (facts >> word & 1) << words[word];
            }
            x.dispute(2, 1, 0, 0, facts, 0, 0);
            x.dispute(1, 2, 0, 0, facts, 0, 0);
            Checks.same(facts + " of the plaintiff's", x.ofCase(0, 4), due);
            Checks.same(facts + " against the defendant", x.ofCase(1, 4), facts);
        }
    }

    private static void factsOfThatTime() {
        Checks.sentence("kept as the real ones of that time");
        OnecodeChancery x = new OnecodeChancery();
        x.dispute(0, 1, 0, 0, 1, 0, 0);
        x.swap(0, 0, 3);
        x.dispute(0, 1, 0, 0, 1, 0, 0);
        x.swap(0, 0, 5);
        x.dispute(0, 1, 0, 0, 1, 0, 0);
        int[] due = {1, 8, 32};
        for (int k = 0; k < 3; k++) {
            Checks.same("FACTS of the CASE " + k, x.ofCase(k, 4), due[k]);
        }
        x.rule(0, 0, 15, 8, 0, 77, 1);
        int[] told = {-1, 77, -1};
        for (int k = 0; k < 3; k++) {
            Checks.same("a RULE NEEDS a real one " + k, x.ofCase(k, 7), told[k]);
        }
    }

    private static void amountsOfCases() {
        Checks.sentence("an AMOUNT (0 to 999)");
        OnecodeChancery x = new OnecodeChancery();
        int[] amounts = {0, 1, 500, 998, 999};
        for (int k = 0; k < amounts.length; k++) {
            x.dispute(0, 0, 0, 0, 0, amounts[k], 0);
            Checks.same("AMOUNT of the CASE " + k, x.ofCase(k, 5), amounts[k]);
        }
        Checks.refuses("-1", Checks.ARGUMENT, () -> x.dispute(0, 0, 0, 0, 0, -1, 0));
        Checks.refuses("1000", Checks.ARGUMENT, () -> x.dispute(0, 0, 0, 0, 0, 1000, 0));
        x.rule(0, 0, 15, 0, 0, 100, 1);
        Checks.same("all of them", x.gain(0), -(1 + 500 + 998 + 999));
    }

    private static void daysOfActs() {
        Checks.sentence("the DAY of the act (told as so many DAYS ago)");
        OnecodeChancery x = new OnecodeChancery();
        Checks.same("on DAY 0", x.dispute(0, 0, 0, 0, 0, 0, 0), 0);
        Checks.refuses("a DAY ahead of DAY 0", Checks.ARGUMENT, () -> x.dispute(0, 0, 0, 0, 0, 0, 1));
        x.pass(10);
        int[] ago = {0, 1, 9, 10};
        for (int k = 0; k < ago.length; k++) {
            Checks.same("a CASE", x.dispute(0, 0, 0, 0, 0, 0, ago[k]), 1 + k);
            Checks.same(ago[k] + " DAYS ago", x.ofCase(1 + k, 6), 10 - ago[k]);
        }
        Checks.refuses("11 DAYS ago", Checks.ARGUMENT, () -> x.dispute(0, 0, 0, 0, 0, 0, 11));
        Checks.refuses("tomorrow", Checks.ARGUMENT, () -> x.dispute(0, 0, 0, 0, 0, 0, -1));
        x.pass(1);
        Checks.same("11 DAYS ago, a DAY later", x.dispute(0, 0, 0, 0, 0, 0, 11), 5);
        Checks.same("its DAY", x.ofCase(5, 6), 0);
        Checks.same("the DAY of an old act stays", x.ofCase(1, 6), 10);
    }

    private static void atMost40Rules() {
        Checks.sentence("RULES: at most 40, numbered from 0");
        OnecodeChancery x = new OnecodeChancery();
        for (int k = 0; k < 40; k++) {
            int number = k;
            Checks.same("RULES", x.realm(1), k);
            Checks.refuses("ofRule(" + k + ", 0) ahead of it", Checks.INDEX, () -> x.ofRule(number, 0));
            Checks.same("rule", x.rule(k % 6, k % 4, 1 + k % 15, k, 63 - k, 2 * k, 1 + k % 5), k);
        }
        Checks.refuses("the 41st", Checks.STATE, () -> x.rule(0, 0, 1, 0, 0, 0, 1));
        Checks.same("RULES", x.realm(1), 40);
        for (int k = 0; k < 40; k++) {
            int[] due = {k % 6, k % 4, 1 + k % 15, k, 63 - k, 2 * k, 1 + k % 5};
            for (int what = 0; what < due.length; what++) {
                Checks.same("ofRule(" + k + ", " + what + ")", x.ofRule(k, what), due[what]);
            }
        }
    }

    private static void amountsOfANewRule() {
        Checks.sentence("swears a RULE, for AMOUNTS of 0 to 999");
        OnecodeChancery x = new OnecodeChancery();
        x.rule(0, 0, 15, 0, 0, 30, 1);
        Checks.same("the least", x.ofRule(0, 7), 0);
        Checks.same("the greatest", x.ofRule(0, 8), 999);
        for (int k = 0; k < 2; k++) {
            x.dispute(0, 0, 0, 0, 0, 999 * k, 0);
            Checks.same("it HOLDS for " + 999 * k, x.ofCase(k, 7), 30);
        }
        x.limit(0, 3, 4);
        x.rule(0, 0, 15, 0, 0, 31, 2);
        Checks.same("the limit of one is not that of the next, least", x.ofRule(1, 7), 0);
        Checks.same("the limit of one is not that of the next, most", x.ofRule(1, 8), 999);
    }

    private static void swornOnThatDay() {
        Checks.sentence("SWORN as it is told (on that DAY)");
        OnecodeChancery x = new OnecodeChancery();
        int[] days = {0, 1, 400, 2999, 3000};
        for (int k = 0; k < days.length; k++) {
            Checks.passTo(x, days[k]);
            x.rule(0, 0, 1, 0, 0, 0, 1);
            Checks.same("SWORN", x.ofRule(k, 9), days[k]);
        }
        x.limit(0, 1, 2);
        Checks.same("a limit swears nothing anew", x.ofRule(0, 9), 0);
    }

    private static void holdsForItsMatter() {
        Checks.sentence("a RULE HOLDS for a CASE of its MATTER");
        OnecodeChancery x = new OnecodeChancery();
        for (int matter = 0; matter < 4; matter++) {
            x.rule(0, matter, 15, 0, 0, 10 + matter, 1);
            x.dispute(0, 0, 0, matter, 0, 0, 0);
        }
        for (int matter = 0; matter < 4; matter++) {
            Checks.same("the MATTER " + matter, x.ofCase(matter, 7), 10 + matter);
            Checks.same("for how many", x.ofRule(matter, 11), 1);
        }
    }

    private static void holdsForItsClasses() {
        Checks.sentence("a RULE HOLDS for a CASE of its CLASS");
        for (int classes = 1; classes <= 15; classes++) {
            OnecodeChancery x = new OnecodeChancery();
            x.rule(0, 0, classes, 0, 0, 10, 1);
            for (int rank = 0; rank < 4; rank++) {
                x.dispute(0, 0, rank, 0, 0, 0, 0);
                Checks.same("CLASSES " + classes + ", CLASS " + rank, x.ofCase(rank, 7),
                    (classes >> rank & 1) == 1 ? 10 : -1);
            }
            Checks.same("for how many", x.ofRule(0, 11), Integer.bitCount(classes));
        }
    }

    /** For how many of the sets of FACTS a RULE HOLDS, and for which, asked of the CASES themselves. */
    private static void holdsForFacts(int needs, int bars) {
        OnecodeChancery x = null;
        for (int facts = 0; facts < 64; facts++) {
            if (facts % 22 == 0) {
                x = new OnecodeChancery();
                x.rule(0, 0, 15, needs, bars, 10, 1);
            }
            boolean holds = true;
            for (int fact = 0; fact < 6; fact++) {
                boolean isThere = (facts >> fact & 1) == 1;
                holds &= isThere || (needs >> fact & 1) == 0;
                holds &= !isThere || (bars >> fact & 1) == 0;
            }
            int dispute = x.dispute(0, 0, 0, 0, facts, 0, 0);
            Checks.same("NEEDS " + needs + ", BARS " + bars + ", FACTS " + facts, x.ofCase(dispute, 7), holds ? 10 : -1);
        }
    }

    private static void holdsWithAllItNeeds() {
        Checks.sentence("with all FACTS that it NEEDS");
        for (int needs = 0; needs < 64; needs++) {
            holdsForFacts(needs, 0);
        }
    }

    private static void holdsWithNoneItBars() {
        Checks.sentence("and none that it BARS");
        for (int bars = 0; bars < 64; bars++) {
            holdsForFacts(0, bars);
            holdsForFacts(63 - bars, bars);
        }
    }

    private static void holdsForAmountsInBetween() {
        Checks.sentence("an AMOUNT in between (both counted)");
        int[][] limits = {{0, 0}, {0, 1}, {1, 1}, {1, 998}, {500, 501}, {998, 999}, {999, 999}, {0, 999}};
        int[] amounts = {0, 1, 2, 499, 500, 501, 502, 997, 998, 999};
        for (int[] limit : limits) {
            OnecodeChancery x = new OnecodeChancery();
            x.rule(0, 0, 15, 0, 0, 10, 1);
            x.limit(0, limit[0], limit[1]);
            for (int k = 0; k < amounts.length; k++) {
                x.dispute(0, 0, 0, 0, 0, amounts[k], 0);
                boolean holds = amounts[k] >= limit[0] && amounts[k] <= limit[1];
                Checks.same(limit[0] + " to " + limit[1] + ", " + amounts[k], x.ofCase(k, 7), holds ? 10 : -1);
            }
        }
    }

    private static void holdsFromItsDayOn() {
        Checks.sentence("a DAY of the act not ahead of its being SWORN");
        OnecodeChancery x = new OnecodeChancery();
        x.pass(20);
        x.rule(0, 0, 15, 0, 0, 10, 1);
        x.dispute(0, 0, 0, 0, 0, 0, 1);
        x.dispute(0, 0, 0, 0, 0, 0, 0);
        Checks.same("the DAY ahead", x.ofCase(0, 7), -1);
        Checks.same("that DAY", x.ofCase(1, 7), 10);
        x.pass(1);
        x.dispute(0, 0, 0, 0, 0, 0, 0);
        x.dispute(0, 0, 0, 0, 0, 0, 1);
        x.dispute(0, 0, 0, 0, 0, 0, 2);
        x.dispute(0, 0, 0, 0, 0, 0, 21);
        int[] due = {10, 10, -1, -1};
        for (int k = 0; k < due.length; k++) {
            Checks.same("told a DAY later, " + k, x.ofCase(2 + k, 7), due[k]);
        }
        Checks.same("for how many", x.ofRule(0, 11), 3);
    }

    private static void holdsForCasesOfThePlaintiff() {
        Checks.sentence("for how many CASES of its PARISH as the plaintiff's it HOLDS");
        OnecodeChancery x = new OnecodeChancery();
        x.rule(2, 1, 15, 0, 0, 10, 1);
        int[][] cases = {{2, 3, 1}, {3, 2, 1}, {2, 2, 1}, {3, 3, 1}, {2, 0, 0}};
        int[] due = {1, 1, 2, 2, 2};
        Checks.same("without CASES", x.ofRule(0, 11), 0);
        for (int k = 0; k < cases.length; k++) {
            x.dispute(cases[k][0], cases[k][1], 0, cases[k][2], 0, 0, 0);
            Checks.same("with the CASE " + k, x.ofRule(0, 11), due[k]);
        }
        for (int k = 5; k < 24; k++) {
            x.dispute(2, 4, k % 4, 1, k, k, 0);
        }
        Checks.same("with 24 CASES", x.ofRule(0, 11), 21);
    }

    private static void customAsOfTheDayOfTheAct() {
        Checks.sentence("7 what the CUSTOM of the plaintiff's PARISH tells, 8 that of the defendant's, 9 by the TIE: "
            + "as of the DAY of the act");
        OnecodeChancery x = new OnecodeChancery();
        x.rule(0, 0, 15, 0, 0, 60, 1);
        x.rule(1, 0, 15, 0, 0, 40, 1);
        x.pass(5);
        x.rule(0, 0, 15, 0, 0, 61, 2);
        x.rule(1, 0, 15, 0, 0, 41, 2);
        int[] ago = {0, 1, 5};
        for (int k = 0; k < 3; k++) {
            x.dispute(0, 1, 0, 0, 0, 0, ago[k]);
        }
        x.pass(1);
        for (int k = 0; k < 3; k++) {
            int more = k == 0 ? 1 : 0;
            Checks.same("the plaintiff's, " + k, x.ofCase(k, 7), 60 + more);
            Checks.same("the defendant's, " + k, x.ofCase(k, 8), 40 + more);
            for (int tie = 0; tie < 3; tie++) {
                x.tie(0, tie);
                Checks.same("by the TIE " + tie + ", " + k, x.ofCase(k, 9), (tie == 0 ? 60 : 40) + more);
            }
        }
    }

    private static void strengthOfRules() {
        Checks.sentence("STRENGTH of a RULE is 10 for each FACT that it NEEDS or BARS, and PROOF");
        for (int facts = 0; facts < 64; facts++) {
            OnecodeChancery x = new OnecodeChancery();
            int due = 10 * Integer.bitCount(facts);
            x.rule(0, 0, 1, facts, 0, 0, 1);
            x.rule(0, 0, 1, 0, facts, 0, 5);
            x.rule(0, 0, 1, facts & 21, facts & 42, 0, 3);
            Checks.same("NEEDS " + facts, x.ofRule(0, 10), due + 1);
            Checks.same("BARS " + facts, x.ofRule(1, 10), due + 5);
            Checks.same("some of both of " + facts, x.ofRule(2, 10), due + 3);
            Checks.same("as limit tells it", x.limit(2, 5, 6), due + 3);
        }
    }

    private static void greatestStrengthTells() {
        Checks.sentence("of its RULES that HOLD those with the greatest STRENGTH");
        for (int order = 0; order < 2; order++) {
            for (int proof = 1; proof < 5; proof++) {
                OnecodeChancery x = new OnecodeChancery();
                x.rule(0, 0, 15, 0, 0, 10 + order, proof + order);
                x.rule(0, 0, 15, 0, 0, 11 - order, proof + 1 - order);
                x.dispute(0, 0, 0, 0, 0, 0, 0);
                Checks.same("PROOF " + proof + " and 1 more", x.ofCase(0, 7), 11);
            }
            OnecodeChancery x = new OnecodeChancery();
            x.rule(0, 0, 15, order, 0, 20 + order, 5 - 4 * order);
            x.rule(0, 0, 15, 1 - order, 0, 21 - order, 1 + 4 * order);
            x.dispute(0, 0, 0, 0, 1, 0, 0);
            x.dispute(0, 0, 0, 0, 0, 0, 0);
            Checks.same("a FACT beats any PROOF", x.ofCase(0, 7), 21);
            Checks.same("but it does not HOLD without it", x.ofCase(1, 7), 20);
        }
        OnecodeChancery x = new OnecodeChancery();
        x.dispute(0, 0, 0, 0, 63, 0, 0);
        for (int facts = 0; facts <= 6; facts++) {
            x.rule(0, 0, 15, (1 << facts) - 1, 0, 50 + facts, 1);
            Checks.same("with " + facts + " FACTS", x.ofCase(0, 7), 50 + facts);
        }
        x.rule(0, 0, 15, 31, 0, 99, 5);
        Checks.same("five FACTS and PROOF 5 do not beat six", x.ofCase(0, 7), 56);
    }

    private static void sameShareOrClash() {
        Checks.sentence("their SHARE, if it is the same, otherwise CLASH");
        for (int share = 0; share <= 100; share += 20) {
            OnecodeChancery x = new OnecodeChancery();
            x.dispute(0, 0, 0, 0, 3, 0, 0);
            x.rule(0, 0, 15, 1, 0, share, 1);
            x.rule(0, 0, 15, 2, 0, share, 1);
            x.rule(0, 0, 15, 0, 4, share, 1);
            Checks.same("thrice the same", x.ofCase(0, 7), share);
            x.rule(0, 0, 15, 0, 0, share == 0 ? 1 : 0, 5);
            Checks.same("a weaker one makes no CLASH", x.ofCase(0, 7), share);
            x.rule(0, 0, 15, 0, 8, share == 100 ? 99 : share + 1, 1);
            Checks.same("one that is not", x.ofCase(0, 7), -2);
            x.rule(0, 0, 15, 0, 16, share, 1);
            Checks.same("and one that is again", x.ofCase(0, 7), -2);
        }
    }

    private static void gapWithoutAny() {
        Checks.sentence("GAP without any");
        OnecodeChancery x = new OnecodeChancery();
        x.dispute(0, 1, 0, 0, 0, 0, 0);
        Checks.same("no RULES at all", x.ofCase(0, 7), -1);
        x.rule(1, 0, 15, 0, 0, 5, 1);
        x.rule(0, 1, 15, 0, 0, 5, 1);
        x.rule(0, 0, 14, 0, 0, 5, 1);
        x.rule(0, 0, 15, 32, 0, 5, 1);
        Checks.same("none that HOLDS", x.ofCase(0, 7), -1);
        Checks.same("the defendant's", x.ofCase(0, 8), 5);
        x.rule(0, 0, 1, 0, 32, 0, 1);
        Checks.same("one that HOLDS, with a SHARE of 0", x.ofCase(0, 7), 0);
    }

    /** CUSTOMS: 0 tells 60, 1 tells 40, 2 a CLASH, 3 nothing, 4 tells 0, 5 tells 100. */
    private static OnecodeChancery withCustoms(int tie) {
        OnecodeChancery x = new OnecodeChancery();
        int[][] rules = {{0, 60}, {1, 40}, {2, 7}, {2, 8}, {4, 0}, {5, 100}};
        for (int[] rule : rules) {
            x.rule(rule[0], 1, 15, 0, 0, rule[1], 1);
        }
        if (tie != 0) {
            x.tie(1, tie);
        }
        return x;
    }

    private static int byTie(int tie, int plaintiff, int defendant) {
        OnecodeChancery x = withCustoms(tie);
        return x.ofCase(x.dispute(plaintiff, defendant, 0, 1, 0, 0, 0), 9);
    }

    private static void tieAtFirst() {
        Checks.sentence("TIE of a MATTER (0 at first)");
        OnecodeChancery x = new OnecodeChancery();
        for (int matter = 0; matter < 4; matter++) {
            Checks.same("TIE at first", x.tie(matter, 1), 0);
            Checks.same("TIE then", x.tie(matter, 2), 1);
            Checks.same("TIE last", x.tie(matter, 2), 2);
        }
        x.tie(3, 0);
        Checks.same("each MATTER has its own", x.tie(2, 2), 2);
    }

    private static void tieOfPlaintiffAndDefendant() {
        Checks.sentence("0 the plaintiff's, 1 the defendant's");
        int[] told = {60, 40, -2, -1, 0, 100};
        for (int plaintiff = 0; plaintiff < 6; plaintiff++) {
            for (int defendant = 0; defendant < 6; defendant++) {
                Checks.same("the plaintiff's", byTie(0, plaintiff, defendant), told[plaintiff]);
                Checks.same("the defendant's", byTie(1, plaintiff, defendant), told[defendant]);
            }
        }
    }

    private static void milderOfBoth() {
        Checks.sentence("2 the milder one of both: the smaller SHARE");
        int[] shares = {60, 40, 0, 100};
        int[] parishes = {0, 1, 4, 5};
        for (int one = 0; one < 4; one++) {
            for (int two = 0; two < 4; two++) {
                Checks.same("of " + shares[one] + " and " + shares[two], byTie(2, parishes[one], parishes[two]),
                    Math.min(shares[one], shares[two]));
            }
        }
    }

    private static void milderWithOneShare() {
        Checks.sentence("with a SHARE of only one of them that one");
        int[][] shares = {{0, 60}, {1, 40}, {4, 0}, {5, 100}};
        for (int[] share : shares) {
            for (int other = 2; other <= 3; other++) {
                Checks.same("the plaintiff's " + share[1], byTie(2, share[0], other), share[1]);
                Checks.same("the defendant's " + share[1], byTie(2, other, share[0]), share[1]);
            }
        }
    }

    private static void milderWithNone() {
        Checks.sentence("with none CLASH, if one of them is a CLASH, otherwise GAP");
        Checks.same("CLASH and GAP", byTie(2, 2, 3), -2);
        Checks.same("GAP and CLASH", byTie(2, 3, 2), -2);
        Checks.same("CLASH and CLASH", byTie(2, 2, 2), -2);
        Checks.same("GAP and GAP", byTie(2, 3, 3), -1);
    }

    private static void refusedAreCounted() {
        Checks.sentence("who calls holds no seal, and is REFUSED (counted)");
        OnecodeChancery x = new OnecodeChancery();
        Checks.same("REFUSED at first", x.realm(13), 0);
        for (int k = 1; k <= 3; k++) {
            Checks.same("call()", x.call(), k);
            Checks.same("REFUSED", x.realm(13), k);
        }
        Checks.refuses("what is refused otherwise", Checks.INDEX, () -> x.means(6, 0));
        Checks.same("is not counted", x.realm(13), 3);
    }

    private static void heldByMost() {
        Checks.sentence("held: of several the smallest one");
        int[][] shares = {{0, 100, 50, 50, 51, 49}, {100, 0, 1, 2, 3, 4}, {100, 99, 98, 97, 96, 95}, {7, 7, 6, 6, 8, 8}};
        int[] due = {50, 0, 95, 6};
        int[] people = {20, 10, 10, 20};
        for (int k = 0; k < shares.length; k++) {
            OnecodeChancery x = new OnecodeChancery();
            for (int parish = 0; parish < 6; parish++) {
                x.rule(parish, 0, 15, 0, 0, shares[k][parish], 1);
            }
            Checks.same("the SHARE, " + k, x.held(0, 0, 0, 0, 0), due[k]);
            Checks.same("PEOPLE, " + k, x.held(0, 0, 0, 0, 1), people[k]);
            x.people(0, 11);
            x.people(1, 12);
            x.people(2, 1);
            x.people(3, 1);
            x.people(4, 11);
            Checks.same("the SHARE by other PEOPLE, " + k, x.held(0, 0, 0, 0, 0),
                new int[] {100, 0, 99, 7}[k]);
            Checks.same("how many, " + k, x.held(0, 0, 0, 0, 1), new int[] {12, 12, 12, 23}[k]);
        }
    }

    private static void heldByNone() {
        Checks.sentence("held: GAP, if none tells a SHARE; 0, if none tells a SHARE");
        OnecodeChancery x = new OnecodeChancery();
        x.people(3, 99);
        x.rule(3, 0, 15, 0, 0, 1, 1);
        x.rule(3, 0, 15, 0, 0, 2, 1);
        int[] due = {-1, 0, 99, 50};
        for (int what = 0; what <= 3; what++) {
            Checks.same("held(0, 0, 0, 0, " + what + ")", x.held(0, 0, 0, 0, what), due[what]);
        }
        x.people(5, 1);
        x.rule(5, 0, 15, 0, 0, 0, 1);
        int[] one = {0, 1, 99, 40};
        for (int what = 0; what <= 3; what++) {
            Checks.same("with one who tells 0, " + what, x.held(0, 0, 0, 0, what), one[what]);
        }
        x.limit(2, 1, 999);
        Checks.same("not for that AMOUNT", x.held(0, 0, 0, 0, 1), 0);
        Checks.same("for that AMOUNT", x.held(0, 0, 0, 1, 1), 1);
    }

    private static void heldByOneParish() {
        Checks.sentence("held: how many PEOPLE tell that SHARE, have a CLASH, a GAP (each PARISH by itself)");
        for (int parish = 0; parish < 6; parish++) {
            OnecodeChancery x = new OnecodeChancery();
            for (int other = 0; other < 6; other++) {
                x.people(other, 10 + other);
            }
            x.rule(parish, 3, 15, 0, 0, 70, 1);
            int[] share = {70, 10 + parish, 0, 65 - parish};
            for (int what = 0; what <= 3; what++) {
                Checks.same("a SHARE of " + parish + ", " + what, x.held(3, 0, 0, 0, what), share[what]);
            }
            x.rule(parish, 3, 15, 0, 0, 71, 1);
            int[] clash = {-1, 0, 10 + parish, 65 - parish};
            for (int what = 0; what <= 3; what++) {
                Checks.same("a CLASH of " + parish + ", " + what, x.held(3, 0, 0, 0, what), clash[what]);
            }
        }
    }

    private static void heldForSuchACase() {
        Checks.sentence("held: for such a CASE of this DAY, both sides of one PARISH");
        OnecodeChancery x = new OnecodeChancery();
        x.rule(0, 0, 15, 0, 0, 5, 1);
        x.rule(0, 1, 15, 0, 0, 10, 1);
        x.rule(0, 1, 4, 0, 0, 20, 2);
        x.rule(0, 1, 15, 8, 0, 30, 1);
        x.rule(0, 1, 15, 8, 4, 40, 1);
        x.rule(0, 1, 15, 24, 4, 50, 1);
        x.limit(5, 999, 999);
        x.rule(1, 1, 15, 0, 0, 99, 1);
        x.people(1, 1);
        int[][] asked = {{0, 0, 0, 0}, {1, 0, 0, 0}, {1, 2, 0, 0}, {1, 2, 12, 0}, {1, 2, 8, 0}, {1, 0, 56, 998},
            {1, 0, 56, 999}, {1, 0, 63, 999}, {2, 0, 0, 0}};
        int[] due = {5, 10, 20, 30, 40, 40, 50, 30, -1};
        for (int order = 0; order < 2 * due.length; order++) {
            int k = order < due.length ? order : 2 * due.length - 1 - order;
            int[] a = asked[k];
            Checks.same("held of " + java.util.Arrays.toString(a), x.held(a[0], a[1], a[2], a[3], 0), due[k]);
        }
        x.pass(1);
        x.rule(0, 2, 15, 0, 0, 60, 1);
        x.tie(2, 1);
        Checks.same("by a RULE of this DAY", x.held(2, 0, 0, 0, 0), 60);
        x.swap(0, 0, 5);
        x.rule(0, 2, 15, 1, 0, 61, 1);
        Checks.same("FACTS are the real ones", x.held(2, 0, 1, 0, 0), 61);
    }

    private static void for512Calls() {
        Checks.sentence("an object is used for at most 512 calls");
        OnecodeChancery x = new OnecodeChancery();
        for (int k = 1; k <= 511; k++) {
            Checks.same("the call " + k, x.call(), k);
        }
        Checks.same("the call 512", x.realm(13), 511);
        OnecodeChancery y = new OnecodeChancery();
        int calls = 0;
        for (int k = 0; k < 24; k++) {
            String text = "m1c0>" + (10 + k) + "=%";
            Checks.same("an ARTICLE", Checks.write(y, text), k);
            calls += text.length() + 1;
        }
        while (calls < 510) {
            y.grid(1, 0, 0);
            calls++;
        }
        Checks.same("the call 511", y.grid(1, 0, 0), 256 * 25);
        Checks.same("the call 512", y.isSound(), true);
    }
}
