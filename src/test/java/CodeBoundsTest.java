/** The bounds that the "Terms" name for what ARTICLES and the CODE tell and for the GRID, one method a sentence. */
public final class CodeBoundsTest {
    public static void main(String[] args) {
        appliesToItsMatter();
        appliesToOneOfItsClasses();
        appliesWithAllFactsBehindPlus();
        appliesWithNoneBehindMinus();
        lessThanEachNumber();
        greaterThanEachNumber();
        inForceFromADayOn();
        inForceUpToTheDayAheadOfItsEnd();
        neverInForce();
        exceptionsThatAreInForceAndApply();
        exceptionsThatTellTheSame();
        withoutAnyItsShare();
        withoutAnyTheCustom();
        withoutAnyWhatThatArticleTells();
        gapIfNotInForceWhateverElse();
        circleWhenComeToAgain();
        longestChains();
        longestCircle();
        theCodeAsksGeneralOnes();
        amendedTextsTakeTheirPlace();
        theCodeTellsTheSame();
        theCodeTellsGapWithoutAny();
        circleIsOneOfThese();
        asOfTheDayOfTheAct();
        customOfTheDayOfTheAct();
        tellsAsOfTheDayOfTheAct();
        gridOfEachClassAndSet();
        marksOfLimits();
        marksOfWhatIsNotLost();
        marksUpTo999();
        marksOnceEach();
        gridInItsOrder();
        gridBothSidesOfThatParish();
        gridOnThatDay();
        gridSums();
        deadIfTheSameForAllCases();
        deadByACustomOfThisDay();
        deadIfNotInForce();
        withoutAsIfNotInForce();
        withoutAsOfTheDayOfTheAct();
        whatIsAskedLeavesNothingBehind();
        Checks.end();
    }

    /** What the CODE of one ARTICLE alone tells for a CASE. */
    private static int toldByCode(String text, int matter, int rank, int facts, int amount) {
        OnecodeChancery x = new OnecodeChancery();
        Checks.enact(x, text);
        x.pass(30);
        return x.ofCase(x.dispute(0, 0, rank, matter, facts, amount, 0), 10);
    }

    private static OnecodeChancery enacted(String... texts) {
        OnecodeChancery x = new OnecodeChancery();
        for (String text : texts) {
            Checks.enact(x, text);
        }
        x.pass(30);
        return x;
    }

    /** What the CODE tells for a CASE of this DAY, of the MATTER 0 and the CLASS 0. */
    private static int now(OnecodeChancery x, int facts) {
        return x.ofCase(x.dispute(0, 0, 0, 0, facts, 100, 0), 10);
    }

    private static void appliesToItsMatter() {
        Checks.sentence("it APPLIES to a CASE: of its MATTER");
        for (int matter = 0; matter < 4; matter++) {
            for (int other = 0; other < 4; other++) {
                Checks.same("m" + matter + " for " + other, toldByCode("m" + matter + "c0=7", other, 0, 0, 0),
                    other == matter ? 7 : -1);
            }
        }
    }

    private static void appliesToOneOfItsClasses() {
        Checks.sentence("it APPLIES to a CASE: of one of its CLASSES");
        for (int set = 1; set <= 15; set++) {
            StringBuilder classes = new StringBuilder();
            for (int rank = 0; rank < 4; rank++) {
                classes.append((set >> rank & 1) == 1 ? String.valueOf(rank) : "");
            }
            for (int rank = 0; rank < 4; rank++) {
                Checks.same("c" + classes + " for " + rank, toldByCode("m1c" + classes + "=7", 1, rank, 0, 0),
                    (set >> rank & 1) == 1 ? 7 : -1);
            }
        }
    }

    private static String conditions(char sign, int facts) {
        StringBuilder out = new StringBuilder();
        for (int fact = 0; fact < 6; fact++) {
            out.append((facts >> fact & 1) == 1 ? sign + "" + fact : "");
        }
        return out.toString();
    }

    /** By the GRID, whose 64 sets of FACTS are in their order: for how many it tells, and which comes first. */
    private static void appliesToSets(int plus, int minus) {
        String text = "m0c0" + conditions('+', plus) + conditions('-', minus) + "=1";
        OnecodeChancery x = enacted(text, "m0c0=2");
        int count = 0;
        int first = -1;
        for (int facts = 0; facts < 64; facts++) {
            if ((facts & plus) == plus && (facts & minus) == 0) {
                count++;
                first = first == -1 ? facts : first;
            }
        }
        Checks.same("CLASHES with " + text, x.grid(0, 0, 2), count);
        Checks.same("the first with " + text, x.grid(0, 0, 5), first);
        for (int facts = 0; facts < 64; facts += 3) {
            boolean applies = (facts & plus) == plus && (facts & minus) == 0;
            Checks.same(text + " for " + facts, now(x, facts), applies ? -2 : 2);
        }
    }

    private static void appliesWithAllFactsBehindPlus() {
        Checks.sentence("with all FACTS behind \"+\"");
        for (int plus = 0; plus < 64; plus++) {
            appliesToSets(plus, 0);
        }
    }

    private static void appliesWithNoneBehindMinus() {
        Checks.sentence("none behind \"-\"");
        for (int minus = 0; minus < 64; minus++) {
            appliesToSets(0, minus);
            appliesToSets(minus & 22, minus & ~22);
        }
        appliesToSets(1, 1);
        appliesToSets(63, 63);
    }

    private static void appliesToAmounts(String limits, int least, int greatest) {
        OnecodeChancery x = enacted("m0c0" + limits + "=7");
        int[] amounts = {0, 1, 2, 4, 5, 6, 7, 8, 99, 100, 101, 997, 998, 999};
        for (int amount : amounts) {
            int dispute = x.dispute(0, 0, 0, 0, 0, amount, 0);
            Checks.same(limits + " for " + amount, x.ofCase(dispute, 10), amount >= least && amount <= greatest ? 7 : -1);
        }
    }

    private static void lessThanEachNumber() {
        Checks.sentence("an AMOUNT less than each number behind \"<\"");
        appliesToAmounts("", 0, 999);
        appliesToAmounts("<0", 0, -1);
        appliesToAmounts("<1", 0, 0);
        appliesToAmounts("<2", 0, 1);
        appliesToAmounts("<100", 0, 99);
        appliesToAmounts("<998", 0, 997);
        appliesToAmounts("<999", 0, 998);
        appliesToAmounts("<100<6", 0, 5);
        appliesToAmounts("<6<100", 0, 5);
        appliesToAmounts("<6<6", 0, 5);
    }

    private static void greaterThanEachNumber() {
        Checks.sentence("greater than each behind \">\"");
        appliesToAmounts(">0", 1, 999);
        appliesToAmounts(">1", 2, 999);
        appliesToAmounts(">100", 101, 999);
        appliesToAmounts(">998", 999, 999);
        appliesToAmounts(">999", 1000, 999);
        appliesToAmounts(">100>5", 101, 999);
        appliesToAmounts(">5>100", 101, 999);
        appliesToAmounts(">5<7", 6, 6);
        appliesToAmounts("<7>4", 5, 6);
        appliesToAmounts(">5<6", 6, 5);
        appliesToAmounts("<5>5", 6, 4);
    }

    private static void inForceFromADayOn() {
        Checks.sentence("voted for it is IN FORCE from a DAY on: DAY + 30");
        for (int start : new int[] {0, 1, 77, 2970}) {
            OnecodeChancery x = new OnecodeChancery();
            Checks.passTo(x, start);
            Checks.enact(x, "m0c0=7");
            Checks.same("from which DAY on", x.ofArticle(0, 9), start + 30);
            Checks.same("on that DAY of the vote", now(x, 0), -1);
            x.pass(29);
            Checks.same("the DAY ahead", now(x, 0), -1);
            Checks.same("if the act was on the DAY ahead", x.ofCase(0, 11), -1);
            Checks.same("IN FORCE the DAY ahead", x.ofArticle(0, 11) + x.realm(8), 0);
            x.pass(1);
            Checks.same("that DAY", now(x, 0), 7);
            Checks.same("if the act was on that DAY", x.ofCase(0, 11), 7);
            Checks.same("IN FORCE that DAY", x.ofArticle(0, 11) + x.realm(8), 2);
            Checks.same("an act of the DAY ahead", x.ofCase(x.dispute(0, 0, 0, 0, 0, 0, 1), 10), -1);
            Checks.same("an act of the DAY ahead, told as of this DAY", x.ofCase(3, 11), 7);
        }
    }

    private static void inForceUpToTheDayAheadOfItsEnd() {
        Checks.sentence("if it is REPEALED, up to the DAY ahead of that of its end");
        OnecodeChancery x = enacted("m0c0=7");
        x.pass(5);
        Checks.same("HOUSES for its REPEAL", Checks.strike(x, 0), 3);
        Checks.same("its end", x.ofArticle(0, 10), 65);
        Checks.same("on that DAY of the vote", now(x, 0), 7);
        x.pass(29);
        Checks.same("the DAY ahead", now(x, 0), 7);
        Checks.same("IN FORCE the DAY ahead", x.ofArticle(0, 11) + x.realm(8), 2);
        x.pass(1);
        Checks.same("its end", now(x, 0), -1);
        Checks.same("IN FORCE at its end", x.ofArticle(0, 11) + x.realm(8), 0);
        int[] ago = {1, 35, 36};
        int[] due = {7, 7, -1};
        for (int k = 0; k < ago.length; k++) {
            Checks.same("an act of " + ago[k] + " DAYS ago", x.ofCase(x.dispute(0, 0, 0, 0, 0, 0, ago[k]), 10), due[k]);
        }
        OnecodeChancery y = new OnecodeChancery();
        Checks.enact(y, "m0c0=7");
        y.pass(1);
        Checks.strike(y, 0);
        y.pass(29);
        Checks.same("for one DAY alone", now(y, 0), 7);
        y.pass(1);
        Checks.same("and no more", now(y, 0), -1);
    }

    private static void neverInForce() {
        Checks.sentence("REPEALED on the DAY of its vote it is never IN FORCE, nor is a BILL, nor what is LOST");
        OnecodeChancery x = new OnecodeChancery();
        Checks.enact(x, "m0c0=7");
        Checks.strike(x, 0);
        Checks.write(x, "m0c0=8");
        Checks.lose(x, "m0c0=9");
        Checks.same("from which DAY on", x.ofArticle(0, 9), 30);
        Checks.same("its end", x.ofArticle(0, 10), 30);
        for (int days : new int[] {29, 1, 1, 30}) {
            x.pass(days);
            Checks.same("what the CODE tells", now(x, 0), -1);
            Checks.same("IN FORCE", x.realm(8), 0);
        }
    }

    private static void exceptionsThatAreInForceAndApply() {
        Checks.sentence("of its EXCEPTIONS that are IN FORCE that DAY and APPLY: what each of them tells");
        OnecodeChancery x = new OnecodeChancery();
        Checks.enact(x, "m0c0=50");
        Checks.enact(x, "m0c0+0=60x0");
        x.pass(1);
        Checks.enact(x, "m0c0+1=70x0");
        Checks.write(x, "m0c0=80x0");
        Checks.lose(x, "m0c0=90x0");
        Checks.enact(x, "m0c123=1x0");
        Checks.enact(x, "m1c0=2x0");
        x.pass(29);
        int[] then = {50, 60, 50, 60};
        int[] later = {50, 60, 70, -2};
        for (int facts = 0; facts < 4; facts++) {
            Checks.same("ahead of the DAY of one, FACTS " + facts, now(x, facts), then[facts]);
            Checks.same("by the ARTICLE itself", x.tells(facts, 0), then[facts]);
        }
        x.pass(1);
        for (int facts = 0; facts < 4; facts++) {
            Checks.same("with both, FACTS " + facts, now(x, facts), later[facts]);
            Checks.same("an old CASE", x.ofCase(facts, 10), then[facts]);
        }
        Checks.strike(x, 1);
        x.pass(30);
        int[] last = {50, 50, 70, 70};
        for (int facts = 0; facts < 4; facts++) {
            Checks.same("behind the end of one, FACTS " + facts, now(x, facts), last[facts]);
        }
    }

    private static void exceptionsThatTellTheSame() {
        Checks.sentence("if that is all the same, that, otherwise CLASH (EXCEPTIONS)");
        OnecodeChancery x = enacted("m0c0=50", "m0c0+0=60x0", "m0c0+1=60x0", "m0c0+2=61x0", "m0c0+3=%x0", "m0c0+4=%x0",
            "m0c0+5=@0x0");
        int[] facts = {1, 3, 4, 5, 7, 8, 24, 9, 32, 33, 40};
        int[] due = {60, 60, 61, -2, -2, -1, -1, -2, -3, -2, -2};
        for (int k = 0; k < facts.length; k++) {
            Checks.same("FACTS " + facts[k], now(x, facts[k]), due[k]);
        }
        OnecodeChancery y = enacted("m0c0=50", "m0c0+0=@0x0", "m0c0+1=@0x0", "m0c0+2=1x1", "m0c0+2=2x1");
        Checks.same("a CIRCLE and a CIRCLE", now(y, 3), -3);
        Checks.same("a CLASH alone", now(y, 5), -2);
        Checks.same("a CLASH and a CIRCLE", now(y, 7), -2);
        OnecodeChancery z = enacted("m0c0=50", "m0c0=1x0", "m0c0=1x0", "m0c0=2x1", "m0c0=3x1", "m0c0=2x2", "m0c0=3x2");
        Checks.same("a CLASH and a CLASH", now(z, 0), -2);
    }

    private static void withoutAnyItsShare() {
        Checks.sentence("without any: its SHARE");
        for (int share : new int[] {0, 1, 50, 99, 100}) {
            OnecodeChancery x = enacted("m0c0=" + share, "m0c0+0=33x0");
            Checks.same("a SHARE of " + share, now(x, 0), share);
            Checks.same("with an EXCEPTION", now(x, 1), 33);
        }
    }

    private static void withoutAnyTheCustom() {
        Checks.sentence("or with \"%\" what the CUSTOM tells by the TIE of the MATTER of the CASE");
        OnecodeChancery x = enacted("m0c0=%", "m1c0=@0", "m1c1=%");
        x.rule(0, 0, 15, 0, 0, 60, 1);
        x.rule(1, 0, 15, 0, 0, 40, 1);
        x.rule(0, 1, 15, 0, 0, 61, 1);
        x.rule(1, 1, 15, 0, 0, 41, 1);
        x.rule(2, 0, 15, 0, 0, 1, 1);
        x.rule(2, 0, 15, 0, 0, 2, 1);
        x.dispute(0, 1, 0, 0, 0, 0, 0);
        x.dispute(0, 1, 0, 1, 0, 0, 0);
        x.dispute(2, 3, 0, 0, 0, 0, 0);
        x.dispute(3, 2, 0, 0, 0, 0, 0);
        int[][] due = {{60, 61, -2, -1}, {40, 61, -1, -2}, {40, 61, -2, -2}};
        for (int tie = 0; tie < 3; tie++) {
            x.tie(0, tie);
            for (int k = 0; k < 4; k++) {
                Checks.same("the TIE " + tie + ", CASE " + k, x.ofCase(k, 10), due[tie][k]);
            }
        }
        x.tie(1, 1);
        Checks.same("an ARTICLE of another MATTER, by the TIE of the CASE", x.ofCase(1, 10), 41);
        Checks.same("the TIE of another MATTER has no say", x.ofCase(0, 10), 40);
    }

    private static void withoutAnyWhatThatArticleTells() {
        Checks.sentence("or with \"@\" what that ARTICLE tells (whether it APPLIES or not)");
        OnecodeChancery x = enacted("m3c3+5<1=70", "m0c0=@0", "m0c0+1=80x0", "m3c3+5<1=90x0", "m0c0+0=5x1");
        Checks.same("what does not APPLY", now(x, 0), 70);
        Checks.same("with its EXCEPTION that APPLIES", now(x, 2), 80);
        Checks.same("an EXCEPTION comes ahead of \"@\"", now(x, 1), 5);
        Checks.same("one that does not APPLY has no say", x.tells(0, 0), 70);
    }

    private static void gapIfNotInForceWhateverElse() {
        Checks.sentence("but GAP, if it is not IN FORCE, whatever else");
        OnecodeChancery x = new OnecodeChancery();
        Checks.write(x, "m0c0=70");
        Checks.lose(x, "m0c0=71");
        Checks.enact(x, "m0c0+5=72");
        Checks.strike(x, 2);
        Checks.enact(x, "m0c0+0=@0");
        Checks.enact(x, "m0c0+1=@1");
        Checks.enact(x, "m0c0+2=@2");
        Checks.enact(x, "m0c0+0=80x0");
        Checks.enact(x, "m0c0=@1x1");
        x.pass(30);
        for (int facts = 1; facts <= 4; facts *= 2) {
            Checks.same("a BILL, what is LOST, what has ended: FACTS " + facts, now(x, facts), -1);
        }
        Checks.same("a GAP and a GAP", now(x, 7), -1);
        Checks.same("an EXCEPTION to what is not IN FORCE has no say", x.tells(0, 3), -1);
        Checks.same("but it has, if the ARTICLE itself is asked", x.tells(0, 0), 80);
        Checks.same("not even where it would be a CIRCLE", x.tells(0, 1), -1);
    }

    private static void circleWhenComeToAgain() {
        Checks.sentence("an ARTICLE that is come to again while it is being told tells CIRCLE (there)");
        OnecodeChancery x = enacted("m0c0=50", "m0c0+0=@0x0", "m0c0+1=30x0", "m0c0+2=@1x1", "m0c0+3=@0", "m0c0+4=9x1");
        int[] facts = {1, 3, 4, 5, 8, 9, 16, 17};
        int[] due = {-3, -2, 50, -3, 50, -3, 50, 9};
        for (int k = 0; k < facts.length; k++) {
            Checks.same("FACTS " + facts[k], now(x, facts[k]), due[k]);
        }
        Checks.same("asked from the other side", x.tells(0, 1), -3);
        Checks.same("what is come to twice, but not while it is being told", now(enacted("m0c0=50", "m0c0=@0",
            "m0c0=@0", "m0c0=@1"), 0), 50);
    }

    /** 24 ARTICLES: each "@" names the one ahead; and each is an EXCEPTION to the one ahead. */
    private static void longestChains() {
        Checks.sentence("ARTICLES: at most 24 (the longest chains)");
        for (String kind : new String[] {"=@", "=%x"}) {
            OnecodeChancery x = new OnecodeChancery();
            for (int faction = 0; faction < 4; faction++) {
                x.mood(faction, 0, 5);
            }
            for (int k = 0; k < 24; k++) {
                Checks.write(x, k == 0 ? "m0c0=9" : "m0c0" + kind + (k - 1));
                x.vote(k);
            }
            x.rule(0, 0, 15, 0, 0, 8, 1);
            x.pass(30);
            int due = kind.equals("=@") ? 9 : 8;
            Checks.same("the CODE by " + kind, now(x, 0), due);
            Checks.same("the last one", x.tells(0, 23), due);
            Checks.same("the first one", x.tells(0, 0), due);
            Checks.same("without the one in the middle", x.without(0, 12), due == 9 ? -2 : 8);
            Checks.same("without the first one", x.without(0, 0), -1);
        }
    }

    private static void longestCircle() {
        Checks.sentence("CIRCLE (the longest one)");
        OnecodeChancery x = new OnecodeChancery();
        for (int faction = 0; faction < 4; faction++) {
            x.mood(faction, 0, 5);
        }
        for (int k = 0; k < 24; k++) {
            Checks.write(x, k == 0 ? "m0c0=9" : "m0c" + (k == 23 ? 0 : 1) + "=@" + (k - 1) + (k == 23 ? "x0" : ""));
            x.vote(k);
        }
        x.pass(30);
        Checks.same("the CODE", now(x, 0), -3);
        for (int k = 0; k < 24; k++) {
            Checks.same("tells(0, " + k + ")", x.tells(0, k), -3);
        }
        Checks.same("without one of them", x.without(0, 7), -1);
    }

    private static void theCodeAsksGeneralOnes() {
        Checks.sentence("the CODE: what all GENERAL ARTICLES that are IN FORCE that DAY and APPLY tell");
        OnecodeChancery x = new OnecodeChancery();
        Checks.write(x, "m0c0=50");
        Checks.enact(x, "m0c0=60x0");
        Checks.enact(x, "m0c1=70");
        Checks.enact(x, "m0c0=80x2");
        x.pass(30);
        Checks.same("EXCEPTIONS alone", now(x, 0), -1);
        x.mood(0, 0, 5);
        x.vote(0);
        x.pass(30);
        Checks.same("with the GENERAL one", now(x, 0), 60);
    }

    /** A BILL of that TEXT is AMENDED by the other, and voted for: what the CODE tells then, with FACTS 0 to 3. */
    private static void amended(String text, String other, int... due) {
        OnecodeChancery x = new OnecodeChancery();
        Checks.enact(x, "m0c0+0=60");
        Checks.write(x, text);
        Checks.feed(x, other);
        Checks.same(text + " AMENDED by " + other, x.amend(1), true);
        for (int faction = 0; faction < 4; faction++) {
            x.mood(faction, x.ofArticle(1, 0), 5);
        }
        x.vote(1);
        x.pass(30);
        for (int facts = 0; facts < 4; facts++) {
            Checks.same(text + " AMENDED by " + other + ", FACTS " + facts, now(x, facts), due[facts]);
        }
    }

    private static void amendedTextsTakeTheirPlace() {
        Checks.sentence("to AMEND a BILL: the TEXT that is fed takes its place");
        amended("m0c0=50", "m0c0+1=70x0", -1, 60, -1, 70);
        amended("m0c0+1=70x0", "m0c0=60", 60, 60, 60, 60);
        amended("m0c0=%", "m0c0+1=5", -1, 60, 5, -2);
        amended("m0c0+1=@0", "m0c0=%", -1, -2, -1, -2);
        amended("m0c0+1-2<50>60=9", "m0c0=@0", 60, 60, 60, 60);
        amended("m0c0=9", "m1c0=9", -1, 60, -1, 60);
        amended("m1c0=9", "m0c0=9", 9, -2, 9, -2);
        amended("m0c0=9", "m0c1=9", -1, 60, -1, 60);
        amended("m0c0=9", "m0c0>99<101-0=9", 9, 60, 9, 60);
        amended("m0c0>99<101=9", "m0c0>100<101=9", -1, 60, -1, 60);
    }

    private static void theCodeTellsTheSame() {
        Checks.sentence("if that is all the same, that, otherwise CLASH (the CODE)");
        OnecodeChancery x = enacted("m0c0+0=50", "m0c0+1=50", "m0c0+2=51", "m0c0+3=%", "m0c0+4=%", "m0c0+5=0");
        int[] facts = {1, 3, 4, 5, 7, 8, 24, 9, 32, 40};
        int[] due = {50, 50, 51, -2, -2, -1, -1, -2, 0, -2};
        for (int k = 0; k < facts.length; k++) {
            Checks.same("FACTS " + facts[k], now(x, facts[k]), due[k]);
        }
        x.rule(0, 0, 15, 0, 0, 50, 1);
        Checks.same("by the CUSTOM the same", now(x, 9), 50);
        x.rule(0, 0, 15, 0, 0, 52, 1);
        Checks.same("a CLASH of the CUSTOM, twice", now(x, 24), -2);
    }

    private static void theCodeTellsGapWithoutAny() {
        Checks.sentence("GAP without any (the CODE)");
        Checks.same("without ARTICLES", now(new OnecodeChancery(), 0), -1);
        OnecodeChancery x = enacted("m0c0+0=50", "m0c1=51", "m1c0=52", "m0c0<100=53", "m0c0>100=54");
        Checks.same("none that APPLIES", now(x, 0), -1);
        Checks.same("one that does", now(x, 1), 50);
    }

    private static void circleIsOneOfThese() {
        Checks.sentence("CIRCLE is one of these, too");
        OnecodeChancery x = enacted("m0c0+0=50", "m0c0+0=@0x0", "m0c0+1=60", "m0c0+1=@2x2", "m0c0+2=70");
        int[] facts = {1, 2, 3, 4, 5, 6, 7};
        int[] due = {-3, -3, -3, 70, -2, -2, -2};
        for (int k = 0; k < facts.length; k++) {
            Checks.same("FACTS " + facts[k], now(x, facts[k]), due[k]);
        }
    }

    private static void asOfTheDayOfTheAct() {
        Checks.sentence("a CASE itself is told as of the DAY of its act");
        OnecodeChancery x = enacted("m0c0=50");
        x.pass(1);
        x.dispute(0, 0, 0, 0, 0, 0, 2);
        x.dispute(0, 0, 0, 0, 0, 0, 1);
        Checks.strike(x, 0);
        Checks.enact(x, "m0c0=60");
        x.pass(30);
        x.dispute(0, 0, 0, 0, 0, 0, 1);
        x.dispute(0, 0, 0, 0, 0, 0, 0);
        int[] due = {-1, 50, 50, 60};
        for (int k = 0; k < 4; k++) {
            Checks.same("the CASE " + k, x.ofCase(k, 10), due[k]);
            Checks.same("if the act was on this DAY", x.ofCase(k, 11), 60);
            Checks.same("what the VERDICT would be", x.wouldJudge(k, 0), due[k]);
        }
        x.pass(400);
        for (int k = 0; k < 4; k++) {
            Checks.same("much later, the CASE " + k, x.ofCase(k, 10), due[k]);
        }
    }

    private static void customOfTheDayOfTheAct() {
        Checks.sentence("with \"%\" what the CUSTOM tells (as of the DAY of the act)");
        OnecodeChancery x = enacted("m0c0=%");
        x.rule(0, 0, 15, 0, 0, 10, 1);
        x.pass(3);
        x.rule(0, 0, 15, 0, 0, 20, 2);
        int[] ago = {0, 1, 3, 4};
        int[] due = {20, 10, 10, -1};
        for (int k = 0; k < 4; k++) {
            x.dispute(0, 0, 0, 0, 0, 0, ago[k]);
        }
        for (int days = 0; days < 3; days++) {
            for (int k = 0; k < 4; k++) {
                Checks.same("the CODE, CASE " + k, x.ofCase(k, 10), due[k]);
                Checks.same("the ARTICLE, CASE " + k, x.tells(k, 0), k == 3 ? -1 : due[k]);
                Checks.same("on this DAY, CASE " + k, x.ofCase(k, 11), 20);
            }
            x.pass(1);
        }
    }

    private static void tellsAsOfTheDayOfTheAct() {
        Checks.sentence("tells: as of the DAY of the act (IN FORCE and APPLYING or not)");
        OnecodeChancery x = enacted("m0c0=50", "m0c0=60x0", "m0c0=@1");
        x.dispute(0, 0, 0, 0, 0, 0, 1);
        x.dispute(0, 0, 0, 0, 0, 0, 0);
        Checks.strike(x, 1);
        Checks.write(x, "m3c3<0=77");
        x.pass(30);
        x.dispute(0, 0, 0, 0, 0, 0, 1);
        x.dispute(0, 0, 0, 0, 0, 0, 0);
        int[][] due = {{50, 60, -1, 77}, {60, 60, 60, 77}, {60, 60, 60, 77}, {50, 60, -1, 77}};
        for (int dispute = 0; dispute < 4; dispute++) {
            for (int article = 0; article < 4; article++) {
                Checks.same("tells(" + dispute + ", " + article + ")", x.tells(dispute, article), due[dispute][article]);
            }
        }
    }

    private static void gridOfEachClassAndSet() {
        Checks.sentence("of each CLASS, with each set of FACTS");
        for (int matter = 0; matter < 4; matter++) {
            for (int parish = 0; parish < 6; parish++) {
                OnecodeChancery x = new OnecodeChancery();
                Checks.same("CASES of the least GRID", x.grid(matter, parish, 0), 256);
                Checks.same("all with a GAP", x.grid(matter, parish, 1), 256);
            }
        }
        for (int rank = 0; rank < 4; rank++) {
            OnecodeChancery x = enacted("m0c" + rank + "=1");
            Checks.same("the sum of a CLASS", x.grid(0, 0, 6), 64);
            Checks.same("the first with a GAP", x.grid(0, 0, 4), rank == 0 ? 64 : 0);
        }
        for (int fact = 0; fact < 6; fact++) {
            OnecodeChancery x = enacted("m0c0123+" + fact + "=1");
            Checks.same("the sum of a FACT", x.grid(0, 0, 6), 128);
        }
    }

    private static int marks(String... texts) {
        OnecodeChancery x = new OnecodeChancery();
        for (String text : texts) {
            Checks.write(x, text);
        }
        Checks.same("CASES of a GRID are 256 a MARK", x.grid(0, 0, 0) % 256, 0);
        return x.grid(0, 0, 0) / 256;
    }

    private static void marksOfLimits() {
        Checks.sentence("a MARK (0; each number behind \"<\", and each number behind \">\" with 1 more (that alone))");
        Checks.same("0 alone", marks(), 1);
        Checks.same("<5", marks("m0c0<5=1"), 2);
        Checks.same(">5", marks("m0c0>5=1"), 2);
        Checks.same("<5 and >4 are the same", marks("m0c0<5=1", "m0c0>4=1"), 2);
        Checks.same("<5 and >5 are not", marks("m0c0<5=1", "m0c0>5=1"), 3);
        Checks.same("<5 and >6 are not", marks("m0c0<5=1", "m0c0>6=1"), 3);
        Checks.same("both of one ARTICLE", marks("m0c0<5<9=1"), 3);
        Checks.same("both >", marks("m0c0>5>9=1"), 3);
        Checks.same("of another MATTER", marks("m1c0<5=1", "m2c0<6=1", "m3c0>7=1"), 1);
        for (int number = 4; number <= 7; number++) {
            OnecodeChancery x = enacted("m0c0>5=1", "m0c0<" + number + "=2");
            Checks.same("MARKS of >5 and <" + number, x.grid(0, 0, 0), number == 6 ? 512 : 768);
            Checks.same("those with a CLASH", x.grid(0, 0, 2), number == 7 ? 64 : 0);
            Checks.same("the sum of all SHARES", x.grid(0, 0, 6), 64 * 3);
        }
    }

    private static void marksOfWhatIsNotLost() {
        Checks.sentence("of all ARTICLES of that MATTER that are not LOST");
        OnecodeChancery x = new OnecodeChancery();
        Checks.lose(x, "m0c0<5=1");
        Checks.same("what is LOST has none", x.grid(0, 0, 0), 256);
        Checks.write(x, "m0c0<6=1");
        Checks.same("a BILL has one", x.grid(0, 0, 0), 512);
        Checks.enact(x, "m0c0<7=1");
        Checks.same("what was voted for has one, IN FORCE or not", x.grid(0, 0, 0), 768);
        Checks.strike(x, 2);
        x.pass(100);
        Checks.same("what is REPEALED has one, behind its end too", x.grid(0, 0, 0), 768);
        Checks.write(x, "m0c0<8=1x1");
        Checks.same("an EXCEPTION has one", x.grid(0, 0, 0), 1024);
        x.vote(1);
        Checks.same("it goes when its ARTICLE is LOST", x.grid(0, 0, 0), 768);
        Checks.write(x, "m0c0<5=1");
        Checks.same("the number of one that is LOST, anew", x.grid(0, 0, 0), 1024);
    }

    private static void marksUpTo999() {
        Checks.sentence("if it is 999 or less");
        Checks.same("<999", marks("m0c0<999=1"), 2);
        Checks.same(">998", marks("m0c0>998=1"), 2);
        Checks.same(">999", marks("m0c0>999=1"), 1);
        Checks.same("<999 and >998", marks("m0c0<999>998=1"), 2);
        Checks.same("<998 and >998", marks("m0c0<998>998=1"), 3);
        Checks.same(">999 and <1", marks("m0c0>999<1=1"), 2);
        OnecodeChancery x = enacted("m0c0>998=1");
        Checks.same("that of 999 is told", x.grid(0, 0, 6), 64);
    }

    private static void marksOnceEach() {
        Checks.sentence("each once");
        Checks.same("<0", marks("m0c0<0=1"), 1);
        Checks.same("<0 twice", marks("m0c0<0<0=1"), 1);
        Checks.same("<5 twice", marks("m0c0<5<5=1"), 2);
        Checks.same("<5 in three", marks("m0c0<5=1", "m0c1<5=1", "m0c2<5>4=1"), 2);
        Checks.same(">0 and <1", marks("m0c0>0<1=1"), 2);
        OnecodeChancery x = new OnecodeChancery();
        for (int k = 0; k < 24; k++) {
            Checks.write(x, "m0c0<" + (20 + 2 * k) + ">" + (20 + 2 * k) + "=1");
        }
        Checks.same("as many as there can be", x.grid(0, 0, 0), 256 * 49);
    }

    private static void gridInItsOrder() {
        Checks.sentence("in an order: by CLASS, then by the set of FACTS, then by AMOUNT; which place, from 0 on");
        for (int rank = 0; rank < 4; rank++) {
            for (int facts = 0; facts < 64; facts += 9) {
                String only = "m0c" + rank + conditions('+', facts) + conditions('-', 63 - facts);
                String[] limits = {"<100", ">99<200", ">199"};
                for (int mark = 0; mark < 3; mark++) {
                    OnecodeChancery x = enacted("m0c0123=1", "m0c0<100>199=9", only + limits[mark] + "=2");
                    int place = (rank * 64 + facts) * 3 + mark;
                    Checks.same("CASES", x.grid(0, 3, 0), 768);
                    Checks.same("one CLASH", x.grid(0, 3, 2), 1);
                    Checks.same("its place", x.grid(0, 3, 5), place);
                    Checks.same("no GAP", x.grid(0, 3, 4), -1);
                    Checks.same("all others", x.grid(0, 3, 6), 767);
                }
            }
        }
        OnecodeChancery x = enacted("m0c012=1", "m0c3-0<5=1", "m0c3-1<5=1", "m0c3-2<5=1", "m0c3-3<5=1");
        x.pass(1);
        Checks.same("the first with a GAP", x.grid(0, 0, 4), 192 * 2 + 1);
        Checks.same("a GAP nowhere ahead", x.grid(0, 0, 1), 64 + 4);
    }

    private static void gridBothSidesOfThatParish() {
        Checks.sentence("with both sides of that PARISH");
        OnecodeChancery x = enacted("m2c0123=%");
        for (int parish = 0; parish < 6; parish++) {
            x.rule(parish, 2, 15, 0, 0, parish, 1);
        }
        for (int tie = 0; tie < 3; tie++) {
            x.tie(2, tie);
            for (int parish = 0; parish < 6; parish++) {
                Checks.same("the PARISH " + parish + " by the TIE " + tie, x.grid(2, parish, 6), 256 * parish);
            }
        }
    }

    private static void gridOnThatDay() {
        Checks.sentence("of an act on that DAY");
        OnecodeChancery x = new OnecodeChancery();
        Checks.enact(x, "m0c0123=%");
        x.rule(0, 0, 15, 0, 0, 1, 1);
        Checks.same("ahead of its DAY", x.grid(0, 0, 6), 0);
        x.pass(29);
        Checks.same("the DAY ahead", x.grid(0, 0, 1), 256);
        x.pass(1);
        Checks.same("its DAY", x.grid(0, 0, 6), 256);
        x.rule(0, 0, 15, 0, 0, 3, 2);
        Checks.same("with a RULE SWORN on this DAY", x.grid(0, 0, 6), 768);
        Checks.strike(x, 0);
        x.pass(29);
        Checks.same("ahead of its end", x.grid(0, 0, 6), 768);
        x.pass(1);
        Checks.same("its end", x.grid(0, 0, 1), 256);
    }

    private static void gridSums() {
        Checks.sentence("1 those with GAP, 2 with CLASH, 3 with CIRCLE, 6 the sum of all SHARES");
        OnecodeChancery x = enacted("m0c0=100", "m0c1=0", "m0c1+0=1", "m0c2=9", "m0c2+5=@3x3");
        int[] due = {256, 64, 32, 32, 192, 65, 6400 + 32 * 9};
        for (int what = 0; what <= 6; what++) {
            Checks.same("grid(0, 0, " + what + ")", x.grid(0, 0, what), due[what]);
        }
        OnecodeChancery y = new OnecodeChancery();
        for (int faction = 0; faction < 4; faction++) {
            y.mood(faction, 0, 5);
        }
        for (int k = 0; k < 24; k++) {
            Checks.write(y, "m0c0123>" + (k == 0 ? 0 : 3 * k) + "<" + (k == 0 ? 1 : 3 * k + 2) + "=100");
            y.vote(k);
        }
        y.pass(30);
        Checks.same("MARKS of 24", y.grid(0, 0, 0), 256 * (2 + 2 * 23));
        Checks.same("one SHARE of 100 each, but for the first, that APPLIES to none", y.grid(0, 0, 6), 256 * 100 * 23);
    }

    private static void deadIfTheSameForAllCases() {
        Checks.sentence("DEAD there, if the CODE without it tells the same for all CASES of the GRID of its MATTER");
        OnecodeChancery x = enacted("m0c0+0+1+2+3+4+5<1=1", "m0c3+0+1+2+3+4+5>998=1", "m0c0-0-1-2-3-4-5>0<2=1",
            "m0c1>7<8=1", "m0c1>7<9=1");
        boolean[] due = {false, false, false, true, false};
        for (int article = 0; article < due.length; article++) {
            Checks.same("isDead(" + article + ", 0)", x.isDead(article, 0), due[article]);
        }
        OnecodeChancery y = enacted("m0c0=5", "m0c0=5", "m0c1=6", "m0c1=7", "m0c1=8", "m1c0=@2", "m2c0=9", "m2c0=%x6");
        boolean[] dead = {true, true, true, true, true, false, true, false};
        for (int article = 0; article < dead.length; article++) {
            Checks.same("isDead(" + article + ", 2)", y.isDead(article, 2), dead[article]);
        }
        for (int parish = 0; parish < 6; parish++) {
            y.rule(parish, 2, 15, 0, 0, parish == 4 ? 9 : 10, 1);
        }
        for (int parish = 0; parish < 6; parish++) {
            Checks.same("in the PARISH " + parish, y.isDead(7, parish), parish == 4);
        }
    }

    private static void deadByACustomOfThisDay() {
        Checks.sentence("DEAD there as of this DAY (by the CUSTOM of that DAY)");
        OnecodeChancery x = enacted("m0c0123=%", "m0c1<0=3", "m0c2=40", "m0c3=%x0");
        for (int article = 0; article < 4; article++) {
            Checks.same("without a CUSTOM, " + article, x.isDead(article, 1), article == 1 || article == 3);
        }
        x.rule(1, 0, 15, 0, 0, 40, 1);
        for (int article = 0; article < 4; article++) {
            Checks.same("with one of this DAY, " + article, x.isDead(article, 1), article > 0);
            Checks.same("of another PARISH, " + article, x.isDead(article, 0), article == 1 || article == 3);
        }
    }

    private static void deadIfNotInForce() {
        Checks.sentence("whether it is DEAD there as of this DAY");
        OnecodeChancery x = new OnecodeChancery();
        Checks.enact(x, "m0c0=5");
        Checks.write(x, "m0c1=5");
        Checks.lose(x, "m0c2=5");
        Checks.same("ahead of its DAY", x.isDead(0, 0), true);
        x.pass(30);
        Checks.same("on its DAY", x.isDead(0, 0), false);
        Checks.same("a BILL", x.isDead(1, 0), true);
        Checks.same("what is LOST", x.isDead(2, 0), true);
        Checks.strike(x, 0);
        x.pass(29);
        Checks.same("ahead of its end", x.isDead(0, 0), false);
        x.pass(1);
        Checks.same("at its end", x.isDead(0, 0), true);
    }

    private static void withoutAsIfNotInForce() {
        Checks.sentence("without that ARTICLE (as if it was not IN FORCE)");
        OnecodeChancery x = enacted("m0c0=5", "m0c0+0=6x0", "m0c0+1=@0", "m0c0+2=@0x0");
        int[][] due = {{-1, 5, 5, 5}, {-1, 5, 6, 6}, {-1, 5, 5, 5}, {-1, 5, 6, 6}, {-1, -3, -3, 5}};
        for (int facts = 0; facts < 5; facts++) {
            now(x, facts);
            for (int article = 0; article < 4; article++) {
                Checks.same("FACTS " + facts + " without " + article, x.without(facts, article), due[facts][article]);
            }
        }
        Checks.same("as it was", x.ofCase(4, 10), -3);
    }

    private static void withoutAsOfTheDayOfTheAct() {
        Checks.sentence("without: what the CODE would tell for it (as of the DAY of its act)");
        OnecodeChancery x = enacted("m0c0=50", "m0c0=%");
        x.rule(0, 0, 15, 0, 0, 10, 1);
        x.dispute(0, 0, 0, 0, 0, 0, 1);
        x.dispute(0, 0, 0, 0, 0, 0, 0);
        Checks.strike(x, 1);
        x.pass(1);
        x.rule(0, 0, 15, 0, 0, 20, 2);
        x.dispute(0, 0, 0, 0, 0, 0, 0);
        x.pass(29);
        x.dispute(0, 0, 0, 0, 0, 0, 0);
        int[][] due = {{-1, -1}, {10, 50}, {20, 50}, {-1, 50}};
        for (int dispute = 0; dispute < 4; dispute++) {
            for (int article = 0; article < 2; article++) {
                Checks.same("without(" + dispute + ", " + article + ")", x.without(dispute, article),
                    due[dispute][article]);
            }
        }
    }

    private interface Asked {
        Object of(OnecodeChancery x);
    }

    private static OnecodeChancery toBeAsked() {
        OnecodeChancery x = enacted("m0c0<500=%", "m0c01>700+1=9", "m1c3>8<10=4", "m0c3<0=3");
        x.rule(0, 0, 15, 0, 0, 6, 1);
        x.rule(4, 1, 8, 32, 0, 60, 1);
        x.dispute(0, 4, 0, 0, 2, 800, 0);
        x.dispute(4, 0, 3, 1, 33, 9, 0);
        x.way(1, 3);
        x.judge(1, 1);
        return x;
    }

    /** Each question behind each other one, and behind itself. */
    private static void whatIsAskedLeavesNothingBehind() {
        Checks.sentence("what is asked changes nothing, and is answered alike whatever was asked ahead of it");
        Asked[] questions = {x -> x.grid(0, 0, 6), x -> x.grid(0, 0, 4), x -> x.grid(1, 4, 1), x -> x.grid(2, 5, 0),
            x -> x.held(1, 3, 32, 999, 0), x -> x.held(0, 0, 0, 0, 3), x -> x.isDead(0, 0), x -> x.isDead(3, 5),
            x -> x.isDead(2, 4), x -> x.gain(0), x -> x.tells(0, 0), x -> x.without(1, 2), x -> x.wouldJudge(0, 1),
            x -> x.wouldVote(0, 0, true), x -> x.text(2), x -> x.uniformity(), x -> x.isSound(), x -> x.digest(),
            x -> x.realm(11), x -> x.ofCase(0, 11), x -> x.ofCase(1, 9), x -> x.ofRule(1, 11), x -> x.ofArticle(0, 12),
            x -> x.means(0, 1), x -> x.liking(0, 1), x -> x.ofFaction(3, 6)};
        Object[] answers = new Object[questions.length];
        for (int k = 0; k < questions.length; k++) {
            answers[k] = questions[k].of(toBeAsked());
        }
        String seen = Sample.seen(toBeAsked());
        for (int first = 0; first < questions.length; first++) {
            OnecodeChancery x = toBeAsked();
            for (int then = 0; then < questions.length; then++) {
                Checks.same("the question " + first + " behind " + then, questions[first].of(x), answers[first]);
                Checks.same("the question " + then + " behind " + first, questions[then].of(x), answers[then]);
            }
            Checks.same("what is seen then", Sample.seen(x), seen);
        }
    }
}
