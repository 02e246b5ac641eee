/**
 * Sentences that speak of several things at once: an EXCEPTION to what is not IN FORCE, a BILL that is AMENDED while
 * others name it, a CASE of an earlier DAY; and what becomes of them as DAYS go by. One method a meeting.
 */
public final class TogetherTest {
    public static void main(String[] args) {
        exceptionToWhatIsNotInForce();
        exceptionToAnExceptionThatIsNotInForce();
        exceptionOfAnotherMatter();
        exceptionThatOutlivesItsArticle();
        amendedWhileOthersNameIt();
        amendedToTheExceptionOfAnother();
        amendedWhileItIsNamedInACircle();
        amendedAsATextThatIsNone();
        amendedMatterOfAPledge();
        amendedMarksOfTheGrid();
        amendedAheadOfItsVoteAlone();
        lostWhileOthersNameIt();
        repealedWhileOthersNameIt();
        circleOnSomeDaysAlone();
        earlierDayAndWordsOfToday();
        earlierDayAndRulesOfToday();
        earlierDayByTheLimitsAndTheTieOfToday();
        earlierDayByTheArticlesOfThatDay();
        earlierDayWithoutAnArticle();
        verdictOfAnEarlierDay();
        gainOfAnEarlierDay();
        deadOnThisDayAlone();
        pledgedWhileAnotherIsVotedOn();
        wouldVoteAsItIsAmended();
        textRefusedWhileItIsFed();
        Checks.end();
    }

    private static void ofAll(OnecodeChancery x, String what, int[] due, int whatOfCase) {
        for (int dispute = 0; dispute < due.length; dispute++) {
            Checks.same(what + ", CASE " + dispute, x.ofCase(dispute, whatOfCase), due[dispute]);
        }
    }

    private static void voteFor(OnecodeChancery x, int bill) {
        int matter = x.ofArticle(bill, 0);
        for (int faction = 0; faction < 4; faction++) {
            x.mood(faction, matter, 5);
        }
        Checks.same("HOUSES for " + bill, x.vote(bill), 3);
    }

    private static boolean amend(OnecodeChancery x, int bill, String text) {
        Checks.feed(x, text);
        return x.amend(bill);
    }

    private static int newCase(OnecodeChancery x, int matter, int facts) {
        return x.dispute(0, 0, 0, matter, facts, 100, 0);
    }

    /** The ARTICLE 0 is a BILL, is LOST, has ended, or is not IN FORCE yet; 1 is an EXCEPTION to it, 2 names it. */
    private static OnecodeChancery withFirst(int state) {
        OnecodeChancery x = new OnecodeChancery();
        if (state == 0) {
            Checks.write(x, "m0c0=10");
        } else if (state == 3) {
            Checks.lose(x, "m0c0=10");
        } else {
            Checks.enact(x, "m0c0=10");
        }
        if (state == 2) {
            Checks.strike(x, 0);
        }
        Checks.enact(x, "m0c0>50=20x0");
        Checks.enact(x, "m1c0=@0");
        x.pass(state == 1 ? 29 : 30);
        return x;
    }

    private static void exceptionToWhatIsNotInForce() {
        Checks.sentence("an EXCEPTION to an ARTICLE that is not IN FORCE has no say in the CODE");
        for (int state = 0; state <= 3; state++) {
            OnecodeChancery x = withFirst(state);
            int shown = state == 1 ? 0 : 1;
            String of = "as 0 is " + state + ", ";
            newCase(x, 0, 0);
            newCase(x, 1, 0);
            Checks.same(of + "the EXCEPTION IN FORCE", x.ofArticle(1, 11), shown);
            Checks.same(of + "the CODE", x.ofCase(0, 10), -1);
            Checks.same(of + "the CODE by @", x.ofCase(1, 10), -1);
            Checks.same(of + "the ARTICLE that @ names", x.tells(1, 2), -1);
            Checks.same(of + "the ARTICLE itself", x.tells(0, 0), shown == 1 ? 20 : 10);
            Checks.same(of + "its EXCEPTION", x.tells(0, 1), 20);
            Checks.same(of + "without the EXCEPTION", x.without(0, 1), -1);
            Checks.same(of + "the EXCEPTION is DEAD", x.isDead(1, 0), true);
            Checks.same(of + "how many EXCEPTIONS", x.ofArticle(0, 12), 1);
            Checks.same(of + "MARKS of the EXCEPTION", x.grid(0, 0, 0), 512);
            Checks.same(of + "GAPS of the GRID", x.grid(0, 0, 1), 512);
        }
        OnecodeChancery x = withFirst(1);
        x.pass(1);
        newCase(x, 0, 0);
        Checks.same("IN FORCE, both", x.ofCase(0, 10), 20);
        Checks.same("the EXCEPTION is not DEAD", x.isDead(1, 0), false);
    }

    private static void exceptionToAnExceptionThatIsNotInForce() {
        Checks.sentence("of its EXCEPTIONS that are IN FORCE that DAY: what each of them tells (an EXCEPTION to one that is not)");
        OnecodeChancery x = new OnecodeChancery();
        Checks.enact(x, "m0c0=10");
        Checks.write(x, "m0c0=20x0");
        Checks.enact(x, "m0c0=30x1");
        Checks.enact(x, "m0c0+5=40x2");
        x.pass(30);
        newCase(x, 0, 0);
        newCase(x, 0, 32);
        ofAll(x, "as the one in the middle is a BILL", new int[] {10, 10}, 10);
        Checks.same("what the BILL tells", x.tells(0, 1), 30);
        Checks.same("what it tells with both", x.tells(1, 1), 40);
        voteFor(x, 1);
        x.pass(30);
        newCase(x, 0, 0);
        newCase(x, 0, 32);
        ofAll(x, "as it is IN FORCE", new int[] {10, 10, 30, 40}, 10);
        Checks.same("without the one in the middle", x.without(3, 1), 10);
        Checks.same("without the next one", x.without(3, 2), 20);
        Checks.same("without the last one", x.without(3, 3), 30);
        Checks.strike(x, 1);
        x.pass(30);
        newCase(x, 0, 0);
        newCase(x, 0, 32);
        ofAll(x, "as it has ended", new int[] {10, 10, 30, 40, 10, 10}, 10);
        ofAll(x, "if the acts were on this DAY", new int[] {10, 10, 10, 10, 10, 10}, 11);
    }

    private static void exceptionOfAnotherMatter() {
        Checks.sentence("an EXCEPTION APPLIES by its own MATTER and CLASSES, whatever those of its ARTICLE are");
        OnecodeChancery x = new OnecodeChancery();
        Checks.enact(x, "m0c0=10");
        Checks.enact(x, "m1c0=20x0");
        Checks.enact(x, "m1c0+0=@0");
        x.pass(30);
        newCase(x, 0, 1);
        newCase(x, 1, 0);
        newCase(x, 1, 1);
        ofAll(x, "the CODE", new int[] {10, -1, 20}, 10);
        Checks.same("the ARTICLE for a CASE of its MATTER", x.tells(0, 0), 10);
        Checks.same("the ARTICLE for a CASE of the other", x.tells(1, 0), 20);
        Checks.same("not DEAD, by the GRID of its own MATTER", x.isDead(1, 0), false);
        Checks.same("the ARTICLE that is named is DEAD nowhere", x.isDead(0, 0), false);
    }

    private static void exceptionThatOutlivesItsArticle() {
        Checks.sentence("as of a DAY: the EXCEPTION from DAY 40 to 69, its ARTICLE from 30 to 59");
        OnecodeChancery x = new OnecodeChancery();
        Checks.enact(x, "m0c0=10");
        x.pass(10);
        Checks.enact(x, "m0c0=20x0");
        x.pass(20);
        Checks.strike(x, 0);
        x.pass(10);
        Checks.strike(x, 1);
        Checks.passTo(x, 80);
        int[] days = {29, 30, 39, 40, 59, 60, 69, 70};
        int[] code = {-1, 10, 10, 20, 20, -1, -1, -1};
        int[] first = {10, 10, 10, 20, 20, 20, 20, 10};
        for (int k = 0; k < days.length; k++) {
            int dispute = x.dispute(0, 0, 0, 0, 0, 100, 80 - days[k]);
            Checks.same("the CODE on DAY " + days[k], x.ofCase(dispute, 10), code[k]);
            Checks.same("the ARTICLE on DAY " + days[k], x.tells(dispute, 0), first[k]);
            Checks.same("the EXCEPTION on DAY " + days[k], x.tells(dispute, 1), 20);
            Checks.same("without the EXCEPTION on DAY " + days[k], x.without(dispute, 1), code[k] < 0 ? -1 : 10);
            Checks.same("without the ARTICLE on DAY " + days[k], x.without(dispute, 0), -1);
        }
    }

    private static void amendedWhileOthersNameIt() {
        Checks.sentence("an ARTICLE that is AMENDED while others name it");
        OnecodeChancery x = new OnecodeChancery();
        Checks.write(x, "m0c0=10");
        Checks.enact(x, "m0c0+0=20x0");
        Checks.enact(x, "m1c0=@0");
        Checks.enact(x, "m0c0-1=@0");
        x.pass(30);
        Checks.same("amend", amend(x, 0, "m1c01<500=40"), true);
        Checks.same("how many EXCEPTIONS", x.ofArticle(0, 12), 1);
        Checks.same("the EXCEPTION", x.text(1), "m0c0+0=20x0");
        Checks.same("the one that names it", x.text(2), "m1c0=@0");
        newCase(x, 0, 1);
        newCase(x, 0, 0);
        newCase(x, 1, 0);
        ofAll(x, "a BILL is named", new int[] {-1, -1, -1}, 10);
        Checks.same("the BILL with its EXCEPTION", x.tells(0, 0), 20);
        Checks.same("the BILL by its new SHARE", x.tells(1, 0), 40);
        voteFor(x, 0);
        x.pass(30);
        newCase(x, 0, 1);
        newCase(x, 0, 0);
        newCase(x, 1, 0);
        newCase(x, 0, 3);
        ofAll(x, "what was AMENDED is named", new int[] {-1, -1, -1, 20, 40, 40, -1}, 10);
    }

    private static void amendedToTheExceptionOfAnother() {
        Checks.sentence("to AMEND a BILL: the TEXT takes its place (the \"x\" of it, too)");
        OnecodeChancery x = new OnecodeChancery();
        Checks.enact(x, "m0c0=10");
        Checks.enact(x, "m0c0+1=50");
        Checks.write(x, "m0c0+0=20x0");
        Checks.enact(x, "m0c0+2=60x2");
        x.pledge(2, 2);
        int[][] counts = {{1, 0, 1}, {0, 1, 1}, {0, 0, 1}, {1, 0, 1}};
        String[] texts = {"m0c0+0=20x0", "m0c0+0=30x1", "m0c0+0=30", "m0c0+0=@1x0"};
        for (int k = 0; k < texts.length; k++) {
            Checks.same("AMENDED by " + texts[k], amend(x, 2, texts[k]), true);
            for (int article = 0; article < 3; article++) {
                Checks.same("EXCEPTIONS to " + article + ", " + texts[k], x.ofArticle(article, 12), counts[k][article]);
            }
            Checks.same("its number", x.ofArticle(2, 7), new int[] {0, 1, -1, 0}[k]);
            Checks.same("who is PLEDGED", x.ofFaction(2, 5), 2);
        }
        amend(x, 2, "m0c0+0=30x1");
        voteFor(x, 2);
        x.pass(30);
        int[] due = {10, 10, -2, -2, 10, 10, -2, -2};
        for (int facts = 0; facts < 8; facts++) {
            newCase(x, 0, facts);
        }
        ofAll(x, "the EXCEPTION to the second", due, 10);
        int[] second = {50, 30, 50, 30, 50, 60, 50, 60};
        for (int facts = 0; facts < 8; facts++) {
            Checks.same("what the second tells, " + facts, x.tells(facts, 1), second[facts]);
        }
    }

    private static void amendedWhileItIsNamedInACircle() {
        Checks.sentence("come to again while it is being told (behind an AMENDMENT that opens the CIRCLE, or closes it)");
        OnecodeChancery x = new OnecodeChancery();
        Checks.enact(x, "m0c0=10");
        Checks.write(x, "m0c0=20x0");
        Checks.enact(x, "m0c0=@0x1");
        x.pass(30);
        newCase(x, 0, 0);
        Checks.same("the BILL has no say", x.ofCase(0, 10), 10);
        Checks.same("what the BILL tells", x.tells(0, 1), 10);
        amend(x, 1, "m0c0+0=@0x0");
        Checks.same("AMENDED, it has no say either", x.ofCase(0, 10), 10);
        voteFor(x, 1);
        x.pass(30);
        newCase(x, 0, 0);
        newCase(x, 0, 1);
        ofAll(x, "where it APPLIES, there is a CIRCLE", new int[] {10, 10, -3}, 10);
        Checks.same("what the EXCEPTION tells", x.tells(2, 1), -3);
        Checks.same("what the last one tells", x.tells(2, 2), -3);
        Checks.same("without the last one it is a CIRCLE too", x.without(2, 2), -3);
        Checks.same("without the one in the middle", x.without(2, 1), 10);
    }

    private static void amendedAsATextThatIsNone() {
        Checks.sentence("amend: whether it takes its place; if not, nothing of the BILL is changed, but the TEXT is empty");
        OnecodeChancery x = new OnecodeChancery();
        Checks.enact(x, "m0c0=10");
        Checks.write(x, "m0c0<9+1=20x0");
        Checks.write(x, "m0c0=@1x1");
        x.pledge(3, 1);
        String seen = Sample.seen(x);
        for (String text : new String[] {"", " ", "m0c0=1x1", "m0c0=@1", "m0c0=1x2", "m0c0=@2", "m0c0=@0x1", "m0c0=@1x0",
            "m0c0=1x3", "m0c0=101", "m4c0=1", "m0c0<1<2<3=1", "m0c0=1 x", "m0c0=1x0 0"}) {
            Checks.same("AMENDED by \"" + text + "\"", amend(x, 1, text), false);
            Checks.same("behind \"" + text + "\"", Sample.seen(x), seen);
        }
        Checks.same("by smaller numbers", amend(x, 1, "m0c0=@0x0"), true);
        Checks.same("the last one by its own", amend(x, 2, "m0c0=@2x0"), false);
        Checks.same("the last one by a BILL ahead", amend(x, 2, "m0c0=@0x1"), true);
        Checks.same("the last one by a BILL ahead, as @", amend(x, 2, "m0c0=@1x0"), true);
    }

    private static void amendedMatterOfAPledge() {
        Checks.sentence("its MOOD to that MATTER is 1 less (that of the BILL as it is voted on)");
        OnecodeChancery x = new OnecodeChancery();
        Checks.write(x, "m0c0=10");
        x.mood(1, 0, 3);
        x.mood(1, 2, 4);
        x.mood(0, 2, -2);
        Checks.same("PLEDGED", x.pledge(0, 0), 1);
        Checks.same("PLEDGED, two", x.pledge(1, 0), 2);
        Checks.same("its LIKING", x.liking(1, 0), 3);
        amend(x, 0, "m2c0=10");
        Checks.same("its LIKING then", x.liking(1, 0), 4);
        Checks.same("who is PLEDGED, is for it", x.wouldVote(0, 0, false), 10);
        Checks.same("vote", x.vote(0), 3);
        int[][] due = {{0, 0, -3, 0}, {3, 0, 3, 0}, {0, 0, 0, 0}, {0, 0, 0, 0}};
        for (int faction = 0; faction < 4; faction++) {
            for (int matter = 0; matter < 4; matter++) {
                Checks.same("MOOD of " + faction + " to " + matter, x.ofFaction(faction, matter), due[faction][matter]);
            }
            Checks.same("free again", x.ofFaction(faction, 5), -1);
        }
    }

    private static void amendedMarksOfTheGrid() {
        Checks.sentence("a MARK of all ARTICLES of that MATTER that are not LOST (behind an AMENDMENT)");
        OnecodeChancery x = new OnecodeChancery();
        Checks.write(x, "m0c0<5>9=10");
        String[] texts = {"m0c0<5>9=10", "m0c0<5=10", "m1c0<5>9=10", "m0c0=10", "m0c0>999<999=10", "m3c0>4<5=@0",
            "m3c0>4<5=1"};
        int[][] due = {{3, 1, 1, 1}, {2, 1, 1, 1}, {1, 3, 1, 1}, {1, 1, 1, 1}, {2, 1, 1, 1}, {2, 1, 1, 1}, {1, 1, 1, 2}};
        for (int k = 0; k < texts.length; k++) {
            Checks.same("AMENDED by " + texts[k], amend(x, 0, texts[k]), k != 5);
            for (int matter = 0; matter < 4; matter++) {
                Checks.same("MARKS of " + matter + ", " + texts[k], x.grid(matter, 0, 0), 256 * due[k][matter]);
            }
        }
        x.vote(0);
        Checks.same("as it is LOST", x.grid(3, 0, 0), 256);
    }

    private static void amendedAheadOfItsVoteAlone() {
        Checks.sentence("amend throws IllegalStateException if it is no BILL any more (and a BILL that is written stays one)");
        OnecodeChancery x = new OnecodeChancery();
        Checks.write(x, "m0c0=10");
        Checks.write(x, "m0c0=11");
        Checks.write(x, "m0c0=12");
        voteFor(x, 0);
        for (int faction = 0; faction < 4; faction++) {
            x.mood(faction, 0, -5);
        }
        x.vote(1);
        Checks.feed(x, "m1c1=9");
        for (int article = 0; article < 2; article++) {
            int number = article;
            Checks.refuses("amend(" + article + ")", Checks.STATE, () -> x.amend(number));
            Checks.same("its TEXT", x.text(article), "m0c0=1" + article);
            Checks.same("signs that are fed", x.realm(12), 6);
        }
        Checks.same("amend(2) by the same signs", x.amend(2), true);
        Checks.same("its TEXT", x.text(2), "m1c1=9");
        Checks.same("a BILL still", x.ofArticle(2, 8), 0);
    }

    private static void lostWhileOthersNameIt() {
        Checks.sentence("LOST: never IN FORCE (its number stays, \"x\" and \"@\" may name it)");
        OnecodeChancery x = new OnecodeChancery();
        Checks.write(x, "m0c0=10");
        Checks.enact(x, "m0c0=20x0");
        Checks.enact(x, "m0c0=@0");
        Checks.same("no HOUSE for it", x.vote(0), 0);
        Checks.enact(x, "m0c0+0=@0x2");
        Checks.lose(x, "m0c0=30x0");
        x.pass(30);
        newCase(x, 0, 0);
        newCase(x, 0, 1);
        ofAll(x, "by @ to what is LOST", new int[] {-1, -1}, 10);
        Checks.same("its EXCEPTIONS, LOST ones too", x.ofArticle(0, 12), 2);
        Checks.same("what it tells, by the EXCEPTION that is IN FORCE", x.tells(0, 0), 20);
        Checks.same("LOST", x.realm(7), 2);
        x.pass(400);
        Checks.same("never", x.ofArticle(0, 11) + x.ofArticle(4, 11), 0);
        Checks.same("sound", x.isSound(), true);
    }

    private static void repealedWhileOthersNameIt() {
        Checks.sentence("REPEALED while others name it: as of a DAY ahead of its end as ever, from then on GAP");
        OnecodeChancery x = new OnecodeChancery();
        Checks.enact(x, "m1c0=10");
        Checks.enact(x, "m0c0=@0");
        Checks.enact(x, "m0c0+0=@1x1");
        Checks.enact(x, "m0c0+1=%x0");
        x.rule(0, 0, 15, 0, 0, 70, 1);
        x.pass(35);
        Checks.strike(x, 0);
        x.pass(29);
        for (int facts = 0; facts < 4; facts++) {
            newCase(x, 0, facts);
        }
        x.pass(1);
        for (int facts = 0; facts < 4; facts++) {
            newCase(x, 0, facts);
        }
        ofAll(x, "ahead of its end, and on it", new int[] {10, -3, 70, -3, -1, -3, -1, -3}, 10);
        ofAll(x, "as of this DAY", new int[] {-1, -3, -1, -3, -1, -3, -1, -3}, 11);
        Checks.same("asked itself, with its EXCEPTION", x.tells(6, 0), 70);
        Checks.same("asked itself", x.tells(4, 0), 10);
    }

    private static void circleOnSomeDaysAlone() {
        Checks.sentence("CIRCLE as of the DAYS alone on which all of it is IN FORCE");
        OnecodeChancery x = new OnecodeChancery();
        Checks.enact(x, "m0c0=10");
        Checks.enact(x, "m0c1=@0");
        x.pass(20);
        Checks.enact(x, "m0c0=@1x0");
        x.pass(20);
        Checks.strike(x, 2);
        x.pass(40);
        int[] days = {29, 30, 49, 50, 69, 70, 80};
        int[] due = {-1, 10, 10, -3, -3, 10, 10};
        for (int k = 0; k < days.length; k++) {
            int dispute = x.dispute(0, 0, 0, 0, 0, 100, 80 - days[k]);
            Checks.same("the CODE on DAY " + days[k], x.ofCase(dispute, 10), due[k]);
            Checks.same("without the EXCEPTION", x.without(dispute, 2), due[k] == -3 ? 10 : due[k]);
            Checks.same("without the one in between", x.without(dispute, 1), due[k] == -3 ? -1 : due[k]);
            Checks.same("the EXCEPTION itself", x.tells(dispute, 2), k == 0 ? -1 : due[k]);
        }
        ofAll(x, "as of this DAY", new int[] {10, 10, 10, 10, 10, 10, 10}, 11);
    }

    private static void earlierDayAndWordsOfToday() {
        Checks.sentence("FACTS, told in the words of the plaintiff's PARISH and kept as the real ones of that time "
            + "(the DAY of the act has no say in it)");
        OnecodeChancery x = new OnecodeChancery();
        x.pass(50);
        x.dispute(1, 2, 0, 0, 1, 0, 50);
        x.swap(1, 0, 3);
        x.dispute(1, 2, 0, 0, 1, 0, 50);
        x.dispute(2, 1, 0, 0, 1, 0, 50);
        x.swap(1, 0, 4);
        x.dispute(1, 1, 0, 0, 9, 0, 0);
        ofAll(x, "real FACTS", new int[] {1, 8, 1, 17}, 4);
        Checks.same("what the word 3 is really", x.means(1, 3), 0);
        Checks.same("what the word 0 is really", x.means(1, 0), 4);
        Checks.same("what the word 4 is really", x.means(1, 4), 3);
    }

    private static void earlierDayAndRulesOfToday() {
        Checks.sentence("a DAY of the act not ahead of its being SWORN (told later for an earlier DAY)");
        OnecodeChancery x = new OnecodeChancery();
        Checks.enact(x, "m0c0=%");
        x.pass(40);
        x.dispute(0, 0, 0, 0, 0, 100, 0);
        x.rule(0, 0, 15, 0, 0, 60, 1);
        Checks.same("of the same DAY, SWORN behind the CASE", x.ofCase(0, 10), 60);
        x.dispute(0, 0, 0, 0, 0, 100, 1);
        x.pass(1);
        x.dispute(0, 0, 0, 0, 0, 100, 1);
        x.dispute(0, 0, 0, 0, 0, 100, 2);
        x.rule(0, 0, 15, 0, 0, 80, 1);
        x.dispute(0, 0, 0, 0, 0, 100, 0);
        ofAll(x, "the CODE", new int[] {60, -1, 60, -1, -2}, 10);
        ofAll(x, "the CUSTOM", new int[] {60, -1, 60, -1, -2}, 7);
        ofAll(x, "as of this DAY", new int[] {-2, -2, -2, -2, -2}, 11);
        Checks.same("CASES for which the first HOLDS", x.ofRule(0, 11), 3);
        Checks.same("CASES for which the second HOLDS", x.ofRule(1, 11), 1);
        Checks.same("held on this DAY", x.held(0, 0, 0, 100, 2), 10);
    }

    private static void earlierDayByTheLimitsAndTheTieOfToday() {
        Checks.sentence("the TIE and the AMOUNTS of a RULE are those of now, for a CASE of an earlier DAY too");
        OnecodeChancery x = new OnecodeChancery();
        x.rule(0, 0, 15, 0, 0, 60, 1);
        x.rule(1, 0, 15, 0, 0, 30, 1);
        Checks.enact(x, "m0c0=%");
        x.pass(60);
        x.dispute(0, 1, 0, 0, 0, 100, 20);
        x.dispute(0, 1, 0, 0, 0, 100, 40);
        int[] byTie = {60, 30, 30};
        for (int tie = 0; tie < 3; tie++) {
            x.tie(0, tie);
            ofAll(x, "the CODE by the TIE " + tie, new int[] {byTie[tie], -1}, 10);
            ofAll(x, "the CUSTOM by the TIE " + tie, new int[] {byTie[tie], byTie[tie]}, 9);
        }
        x.limit(1, 101, 999);
        ofAll(x, "as the milder one HOLDS no more", new int[] {60, -1}, 10);
        x.limit(0, 0, 99);
        ofAll(x, "as none HOLDS any more", new int[] {-1, -1}, 10);
        x.limit(1, 100, 100);
        ofAll(x, "as one HOLDS again", new int[] {30, -1}, 10);
    }

    private static void earlierDayByTheArticlesOfThatDay() {
        Checks.sentence("a CASE itself is told as of the DAY of its act (each DAY of a long time)");
        OnecodeChancery x = new OnecodeChancery();
        int[] voted = {0, 15, 20, 40};
        String[] texts = {"m0c0=10", "m0c0+0=20x0", "m0c0+0=@0x1", "m0c0=10"};
        for (int k = 0; k < texts.length; k++) {
            Checks.passTo(x, voted[k]);
            Checks.enact(x, texts[k]);
        }
        Checks.passTo(x, 45);
        Checks.strike(x, 2);
        Checks.passTo(x, 55);
        Checks.strike(x, 1);
        Checks.passTo(x, 90);
        int[] days = {0, 29, 30, 44, 45, 49, 50, 69, 70, 74, 75, 84, 85, 90};
        int[] plain = {-1, -1, 10, 10, 10, 10, 10, 10, 10, 10, 10, 10, 10, 10};
        int[] withFact = {-1, -1, 10, 10, 20, 20, -3, -3, -2, -2, -2, -2, 10, 10};
        for (int round = 0; round < 2; round++) {
            OnecodeChancery y = round == 0 ? x : earlierAgain();
            int[] due = round == 0 ? withFact : plain;
            for (int k = 0; k < days.length; k++) {
                int dispute = y.dispute(0, 0, 0, 0, round == 0 ? 1 : 0, 100, 90 - days[k]);
                Checks.same("DAY " + days[k] + ", round " + round, y.ofCase(dispute, 10), due[k]);
                Checks.same("as of this DAY", y.ofCase(dispute, 11), 10);
                Checks.same("a JUDGE as of that DAY", y.judge(dispute, k % 4), due[k]);
            }
        }
    }

    private static OnecodeChancery earlierAgain() {
        OnecodeChancery x = new OnecodeChancery();
        Checks.enact(x, "m0c0=10");
        x.pass(40);
        Checks.enact(x, "m0c0=10");
        Checks.enact(x, "m0c0+0=20x0");
        x.pass(50);
        return x;
    }

    private static void earlierDayWithoutAnArticle() {
        Checks.sentence("without: as if it was not IN FORCE (on the DAY of the act, on which another one was)");
        OnecodeChancery x = new OnecodeChancery();
        Checks.enact(x, "m0c0=10");
        x.pass(30);
        Checks.strike(x, 0);
        Checks.enact(x, "m0c0=20");
        x.pass(29);
        Checks.enact(x, "m0c0=20");
        x.pass(40);
        int[] days = {29, 30, 59, 60, 88, 89, 99};
        int[][] due = {{-1, -1, -1}, {-1, 10, 10}, {-1, 10, 10}, {20, -1, 20}, {20, -1, 20}, {20, 20, 20}, {20, 20, 20}};
        for (int k = 0; k < days.length; k++) {
            int dispute = x.dispute(0, 0, 0, 0, 0, 100, 99 - days[k]);
            for (int article = 0; article < 3; article++) {
                Checks.same("DAY " + days[k] + " without " + article, x.without(dispute, article), due[k][article]);
            }
        }
    }

    private static void verdictOfAnEarlierDay() {
        Checks.sentence("on APPEAL a VERDICT that is not what the CODE tells for the CASE by now (as of the DAY of the act)");
        OnecodeChancery x = new OnecodeChancery();
        x.rule(0, 0, 15, 0, 0, 60, 1);
        Checks.enact(x, "m0c0=%");
        x.pass(30);
        x.dispute(0, 0, 0, 0, 0, 100, 0);
        x.dispute(0, 0, 0, 0, 0, 100, 1);
        Checks.same("judged", x.judge(0, 0), 60);
        Checks.same("judged by what was not IN FORCE yet", x.judge(1, 0), -1);
        x.pass(5);
        x.rule(0, 0, 15, 0, 0, 80, 5);
        Checks.enact(x, "m0c0=90");
        x.pass(40);
        Checks.same("a new RULE and a new ARTICLE say nothing of it", x.appeal(0), 60);
        Checks.same("REVERSED", x.realm(10), 0);
        x.limit(0, 200, 999);
        Checks.same("its RULE by other AMOUNTS", x.appeal(0), -1);
        Checks.same("REVERSED", x.realm(10), 1);
        Checks.same("UNIFORMITY of two GAPS", x.uniformity(), 1.0);
        x.limit(0, 0, 999);
        Checks.same("and back", x.appeal(0), 60);
        Checks.same("the other one stays", x.appeal(1), -1);
        Checks.same("REVERSED, each time", x.realm(10), 2);
        Checks.same("who judged it", x.ofCase(0, 12), 0);
        Checks.same("UNIFORMITY", x.uniformity(), 0.0);
    }

    private static void gainOfAnEarlierDay() {
        Checks.sentence("GAIN: the WORTH by the CODE as if the act was on this DAY, less the WORTH by the CUSTOM as of the DAY of the act");
        OnecodeChancery x = new OnecodeChancery();
        Checks.enact(x, "m0c0=%");
        x.pass(30);
        x.rule(0, 0, 15, 0, 0, 60, 1);
        x.dispute(0, 0, 0, 0, 0, 500, 0);
        x.dispute(0, 0, 0, 0, 0, 70, 1);
        Checks.same("on the DAY of its being SWORN", x.gain(0), 300 - 300 + 42 - 0);
        x.pass(10);
        x.rule(0, 0, 15, 0, 0, 20, 2);
        Checks.same("by a stronger one", x.gain(0), 100 - 300 + 14 - 0);
        x.judge(0, 0);
        Checks.same("a VERDICT has no say", x.gain(0), 100 - 300 + 14 - 0);
        Checks.strike(x, 0);
        x.pass(29);
        Checks.same("ahead of the end", x.gain(0), 100 - 300 + 14 - 0);
        x.pass(1);
        Checks.same("behind it", x.gain(0), -300);
    }

    private static void deadOnThisDayAlone() {
        Checks.sentence("whether it is DEAD there as of this DAY (by EXCEPTIONS, \"@\" and the CUSTOM of this DAY)");
        OnecodeChancery x = new OnecodeChancery();
        Checks.enact(x, "m0c0=10");
        x.pass(10);
        Checks.enact(x, "m0c0=20x0");
        Checks.enact(x, "m0c0=%");
        x.pass(20);
        Checks.same("alone IN FORCE", x.isDead(0, 0), false);
        Checks.same("an EXCEPTION ahead of its DAY", x.isDead(1, 0), true);
        x.pass(10);
        Checks.same("a CLASH with a GAP, and a GAP without it", x.isDead(0, 0), false);
        Checks.same("a CLASH either way", x.isDead(1, 0), true);
        x.rule(0, 0, 15, 0, 0, 20, 1);
        Checks.same("a CUSTOM that tells the same", x.isDead(0, 0), true);
        Checks.same("without the EXCEPTION a CLASH", x.isDead(1, 0), false);
        Checks.same("what is left to the CUSTOM is DEAD there", x.isDead(2, 0), true);
        Checks.same("and not in a PARISH without it", x.isDead(2, 1), false);
        Checks.same("there the EXCEPTION is", x.isDead(1, 1), true);
    }

    private static void pledgedWhileAnotherIsVotedOn() {
        Checks.sentence("PLEDGED for one BILL it votes for that alone, and is free again behind the vote on that alone");
        OnecodeChancery x = new OnecodeChancery();
        Checks.write(x, "m0c0=10");
        Checks.write(x, "m0c0=20");
        x.pledge(0, 1);
        x.mood(0, 0, -1);
        Checks.same("against the other", x.wouldVote(0, 0, false), -5);
        Checks.same("for the one", x.wouldVote(1, 0, false), 5);
        Checks.same("vote on the other", x.vote(0), 0);
        Checks.same("PLEDGED still", x.ofFaction(0, 5), 1);
        Checks.same("MOOD as it was", x.ofFaction(0, 0), -1);
        Checks.same("vote on the one", x.vote(1), 3);
        Checks.same("free", x.ofFaction(0, 5), -1);
        Checks.same("MOOD 1 less", x.ofFaction(0, 0), -2);
        Checks.same("by that MOOD it is REPEALED", x.repeal(1), 3);
        Checks.same("its end", x.ofArticle(1, 10), 30);
        Checks.same("never IN FORCE", x.realm(8), 0);
    }

    private static void wouldVoteAsItIsAmended() {
        Checks.sentence("LIKING: TASTE * (SHARE - 50) / 25 more; with \"%\" or \"@\" the MOOD alone (behind an AMENDMENT)");
        OnecodeChancery x = new OnecodeChancery();
        Checks.write(x, "m0c0=10");
        Checks.write(x, "m0c0=10");
        x.mood(2, 0, 1);
        x.mood(2, 1, -2);
        x.taste(2, -3);
        String[] texts = {"m0c0=10", "m0c0=50", "m0c0=100", "m0c0=%", "m0c0=@0", "m1c0=%", "m1c0=0", "m1c0=58", "m1c0=59"};
        int[] due = {5, 1, -5, 1, 1, -2, 4, -2, -3};
        for (int k = 0; k < texts.length; k++) {
            amend(x, 1, texts[k]);
            Checks.same("LIKING of " + texts[k], x.liking(2, 1), due[k]);
            Checks.same("the HOUSE 1 on " + texts[k], x.wouldVote(1, 1, false), due[k] > 0 ? 5 : -5);
            Checks.same("its REPEAL, " + texts[k], x.wouldVote(1, 1, true), due[k] > 0 ? -5 : 5);
            Checks.same("the other BILL", x.liking(2, 0), 5);
        }
    }

    private static void textRefusedWhileItIsFed() {
        Checks.sentence("a method that throws an exception changes nothing (the TEXT that is fed, among others)");
        OnecodeChancery x = Sample.realmOfBills(24);
        Checks.feed(x, "m3c3=77");
        Checks.refuses("write()", Checks.STATE, () -> x.write());
        Checks.refuses("feed(31)", Checks.ARGUMENT, () -> x.feed(31));
        Checks.refuses("amend(24)", Checks.INDEX, () -> x.amend(24));
        Checks.same("signs", x.realm(12), 7);
        Checks.same("amend(23)", x.amend(23), true);
        Checks.same("its TEXT", x.text(23), "m3c3=77");
        Checks.same("signs then", x.realm(12), 0);
        Checks.refuses("write() of nothing", Checks.STATE, () -> x.write());
    }
}
