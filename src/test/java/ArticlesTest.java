/** Promises 8 to 10, 26 and 35: how a TEXT is fed, read, amended and written anew. */
public final class ArticlesTest {
    public static void main(String[] args) {
        promise8Feed();
        promise9Write();
        whatIsAnArticle();
        whatIsNoArticle();
        whatItMayName();
        longAndShortTexts();
        promise10Amend();
        amendKeepsAndChanges();
        promise26OfArticle();
        whatBecomesOfIt();
        promise35Text();
        Checks.end();
    }

    private static void promise8Feed() {
        OnecodeChancery x = new OnecodeChancery();
        Checks.refuses("feed(31)", Checks.ARGUMENT, () -> x.feed(31));
        Checks.refuses("feed(127)", Checks.ARGUMENT, () -> x.feed(127));
        Checks.refuses("feed(-1)", Checks.ARGUMENT, () -> x.feed(-1));
        Checks.same("feed(32)", x.feed(32), 1);
        Checks.same("feed(126)", x.feed(126), 2);
        for (int k = 3; k <= 60; k++) {
            Checks.same("the sign " + k, x.feed(48), k);
            Checks.same("signs that are fed", x.realm(12), k);
        }
        Checks.refuses("sign 61", Checks.STATE, () -> x.feed(48));
        Checks.refuses("sign 61 that is none", Checks.ARGUMENT, () -> x.feed(31));
        Checks.same("signs at most", x.realm(12), 60);
        Checks.same("no ARTICLE", x.write(), -1);
        Checks.same("the TEXT is empty then", x.realm(12), 0);
        Checks.same("a sign after that", x.feed(109), 1);
    }

    private static void promise9Write() {
        OnecodeChancery x = new OnecodeChancery();
        Checks.same("an empty TEXT", x.write(), -1);
        for (int k = 0; k < 24; k++) {
            Checks.same("the ARTICLE " + k, Checks.write(x, "m" + k % 4 + "c3=" + k), k);
            Checks.same("the TEXT is empty then", x.realm(12), 0);
            Checks.same("ARTICLES", x.realm(3), k + 1);
            Checks.same("BILLS", x.realm(4), k + 1);
        }
        Checks.feed(x, "m0c0=1");
        Checks.refuses("write of the ARTICLE 25", Checks.STATE, x::write);
        Checks.same("the TEXT stays", x.realm(12), 6);
        Checks.same("it may still amend", x.amend(23), true);
        Checks.same("as fed", x.text(23), "m0c0=1");
    }

    private static void whatIsAnArticle() {
        String[][] due = {
            {"m0c0=0", "m0c0=0"},
            {"m3c0123=100", "m3c0123=100"},
            {"  m  2  c  0  3  =  7  ", "m2c03=7"},
            {"m1c1+5-0+0+5-0=005", "m1c1+0+5-0=5"},
            {"m1c1+2-2=%", "m1c1+2-2=%"},
            {"m1c1<000>999=%", "m1c1<0>999=%"},
            {"m1c1>5<0=099", "m1c1>5<0=99"},
            {"m1c1<5<5=1", "m1c1<5<5=1"},
            {"m1c1>007+1<20-3=1", "m1c1+1-3>7<20=1"},
            {"m1c1<5+1=1", "m1c1+1<5=1"},
            {"m0c0=@0", "m0c0=@0"},
            {"m0c0=@ 007 x 010 ", "m0c0=@7x10"},
            {"m0c0=1x0", "m0c0=1x0"},
            {"m0c0=% x1", "m0c0=%x1"},
            {"m0 c0 + 1 < 20 = 30 x 3", "m0c0+1<20=30x3"},
            {"m0c0+0+1+2+3+4+5-0-1-2-3-4-5<999>999=@1x1", "m0c0+0+1+2+3+4+5-0-1-2-3-4-5<999>999=@1x1"},
        };
        OnecodeChancery x = new OnecodeChancery();
        for (int k = 0; k < due.length; k++) {
            Checks.same("the number of " + due[k][0], Checks.write(x, due[k][0]), k);
            Checks.same("the text of " + due[k][0], x.text(k), due[k][1]);
        }
    }

    private static void whatIsNoArticle() {
        String[] wrong = {" ", "m", "m0", "m0c", "m0c0", "m0c0=", "m0c=1", "c0m0=1", "m4c0=1", "mxc0=1", "m00c0=1",
            "m0c4=1", "c0=1", "mc0=1", "m0=1", "m0c05", "m0c0%", "m0c0@0", "m0c0 9", "m0c0=1:", "m0c00=1", "m0c10=1", "m0c021=1", "m0c0123 3=1", "m0c0+6=1", "m0c0+=1", "m0c0-=1", "m0c0-6=1",
            "m0c0+12=1", "m0c0+1 2=1", "m0c0<=1", "m0c0>=1", "m0c0<0001=1", "m0c0<1000=1", "m0c0<1 0=1",
            "m0c0<1<2<3=1", "m0c0>1<2>3=1", "m0c0>1>2>3=1", "m0c0=101", "m0c0=999", "m0c0=0001", "m0c0=1 0",
            "m0c0=10 0", "m0c0=-1", "m0c0=%%", "m0c0=%1", "m0c0=1%", "m0c0=@", "m0c0=@x0", "m0c0=@1", "m0c0=@0 0",
            "m0c0=@0000", "m0c0=1x", "m0c0=1x1", "m0c0=1x0x0", "m0c0=1x0 0", "m0c0=1x0000", "m0c0=1y", "m0c0x0=1",
            "M0c0=1", "m0C0=1", "m0c0==1", "m0c0=1=1", "m0c0*1=1", "m0c0=1m0c0=1", "0m0c0=1", "m0,c0=1", "m0c0=1.",
            "m-0c0=1", "m0c0=+1", "m0c0<-1=1", "m0c0<+1=1", "m0c0=1x-0", "m0c0=@-0", "m0c0=1x999", "m0c0=@999",
            "m0c0~=1", "m0c0=:", "m0c0=/", "m0c/=1", "m/c0=1", "m0c0+/=1", "m:c0=1"};
        OnecodeChancery x = new OnecodeChancery();
        Checks.same("one that is", Checks.write(x, "m0c0=1"), 0);
        int calls = 8;
        for (String text : wrong) {
            calls += text.length() + 3;
            if (calls > 500) {
                x = new OnecodeChancery();
                Checks.write(x, "m0c0=1");
                calls = 8 + text.length() + 3;
            }
            Checks.same("the number of " + text, Checks.write(x, text), -1);
            Checks.same("the TEXT is empty after " + text, x.realm(12), 0);
            Checks.same("ARTICLES after " + text, x.realm(3), 1);
        }
    }

    private static void whatItMayName() {
        OnecodeChancery x = new OnecodeChancery();
        Checks.same("an EXCEPTION to what is not there", Checks.write(x, "m0c0=1x0"), -1);
        Checks.same("an outcome that is not there", Checks.write(x, "m0c0=@0"), -1);
        Checks.same("the first", Checks.write(x, "m0c0=1"), 0);
        Checks.same("an EXCEPTION to itself", Checks.write(x, "m0c0=1x1"), -1);
        Checks.same("an outcome by itself", Checks.write(x, "m0c0=@1"), -1);
        Checks.same("to what is there", Checks.write(x, "m0c0=@0x0"), 1);
        x.vote(0);
        Checks.same("the first is LOST", x.ofArticle(0, 8), 3);
        Checks.same("to what is LOST", Checks.write(x, "m0c0=@0x0"), 2);
        Checks.same("EXCEPTIONS to it", x.ofArticle(0, 12), 2);
    }

    private static void longAndShortTexts() {
        OnecodeChancery x = new OnecodeChancery();
        String[] ends = {"=7", "=07", "=007", "=% ", "=1x0", "=@00", "+0=%"};
        String[] due = {"=7", "=7", "=7", "=%", "=1x0", "=@0", "+0=%"};
        for (int k = 0; k < ends.length; k++) {
            String text = "m2c1" + " ".repeat(56 - ends[k].length()) + ends[k];
            Checks.same("a TEXT of 60 signs with " + ends[k], Checks.write(x, text), k);
            Checks.same("its text", x.text(k), "m2c1" + due[k]);
        }
        x = new OnecodeChancery();
        Checks.write(x, "m0c0=100");
        Checks.same("a shorter TEXT after a longer one", Checks.write(x, "m0c0=1"), 1);
        Checks.same("its text", x.text(1), "m0c0=1");
        Checks.same("no outcome is left of before", Checks.write(x, "m0c0="), -1);
        Checks.same("60 blanks", Checks.write(x, " ".repeat(60)), -1);
        Checks.same("60 signs that end in a condition", Checks.write(x, "m0c0" + "+0".repeat(28)), -1);
        Checks.same("27 conditions", Checks.write(x, "m0c0" + "+0".repeat(27) + "=1"), 2);
        Checks.same("its text", x.text(2), "m0c0+0=1");
    }

    private static void promise10Amend() {
        OnecodeChancery x = new OnecodeChancery();
        Checks.refuses("amend(0) without ARTICLES", Checks.INDEX, () -> x.amend(0));
        Checks.write(x, "m0c0=1");
        Checks.write(x, "m0c0=2");
        Checks.write(x, "m0c0=3x1");
        Checks.refuses("amend(3)", Checks.INDEX, () -> x.amend(3));
        Checks.refuses("amend(-1)", Checks.INDEX, () -> x.amend(-1));
        Checks.same("by an empty TEXT", x.amend(1), false);
        Checks.feed(x, "m0c0=@1");
        Checks.same("that names its own number", x.amend(1), false);
        Checks.same("the TEXT is empty then", x.realm(12), 0);
        Checks.feed(x, "m0c0=1x2");
        Checks.same("that names a greater number", x.amend(1), false);
        Checks.feed(x, "m0c0=101");
        Checks.same("by what is no ARTICLE", x.amend(1), false);
        Checks.same("what it says still", x.text(1), "m0c0=2");
        Checks.feed(x, "m3c12-4<9=@0x0");
        Checks.same("that names a smaller number", x.amend(1), true);
        Checks.same("the TEXT is empty then", x.realm(12), 0);
        Checks.same("what it says then", x.text(1), "m3c12-4<9=@0x0");
        Checks.same("ARTICLES stay as many", x.realm(3), 3);
        Checks.feed(x, "m0c0=@0");
        Checks.same("the first by its own number", x.amend(0), false);
        x.vote(0);
        Checks.feed(x, "m0c0=5");
        Checks.refuses("amend of what is LOST", Checks.STATE, () -> x.amend(0));
        Checks.same("the TEXT stays", x.realm(12), 6);
        Checks.same("it amends another", x.amend(2), true);
        Checks.enact(x, "m0c0=5");
        Checks.refuses("amend of what was voted for", Checks.STATE, () -> x.amend(3));
        Checks.strike(x, 3);
        Checks.refuses("amend of what is REPEALED", Checks.STATE, () -> x.amend(3));
    }

    private static void amendKeepsAndChanges() {
        OnecodeChancery x = new OnecodeChancery();
        Checks.write(x, "m0c0=1");
        Checks.write(x, "m0c0=2");
        Checks.write(x, "m0c0=3x0");
        Checks.write(x, "m0c0=4x2");
        x.pledge(1, 2);
        Checks.feed(x, "m2c3=90x1");
        x.amend(2);
        Checks.same("who is PLEDGED stays so", x.ofFaction(1, 5), 2);
        Checks.same("EXCEPTIONS to what it named", x.ofArticle(0, 12), 0);
        Checks.same("EXCEPTIONS to what it names", x.ofArticle(1, 12), 1);
        Checks.same("EXCEPTIONS to it stay", x.ofArticle(2, 12), 1);
        Checks.same("it is a BILL still", x.ofArticle(2, 8), 0);
        Checks.same("what it says", x.text(2), "m2c3=90x1");
        Checks.feed(x, "m1c3>5=90");
        x.amend(2);
        Checks.same("GENERAL again", x.ofArticle(2, 7), -1);
        Checks.same("no limit of before is left", x.ofArticle(2, 5), 999);
        Checks.same("its limit", x.ofArticle(2, 4), 6);
        x.vote(2);
        Checks.same("the MOOD to the MATTER that it has by now", x.ofFaction(1, 1), -1);
        Checks.same("not to that it had", x.ofFaction(1, 2), 0);
    }

    private static void promise26OfArticle() {
        OnecodeChancery x = new OnecodeChancery();
        Checks.refuses("ofArticle(0, 13) without ARTICLES", Checks.INDEX, () -> x.ofArticle(0, 13));
        Checks.write(x, "m2c013+1+4-0-5<300>100=70");
        Checks.write(x, "m3c2<300<200=%x0");
        Checks.write(x, "m1c0>7>3=@1");
        Checks.write(x, "m1c0<0=@0x1");
        Checks.write(x, "m1c0>999=0x1");
        int[][] due = {
            {2, 11, 18, 33, 101, 299, 70, -1, 0, -1, -1, 0, 1},
            {3, 4, 0, 0, 0, 199, -1, 0, 0, -1, -1, 0, 2},
            {1, 1, 0, 0, 8, 999, -3, -1, 0, -1, -1, 0, 0},
            {1, 1, 0, 0, 0, -1, -2, 1, 0, -1, -1, 0, 0},
            {1, 1, 0, 0, 1000, 999, 0, 1, 0, -1, -1, 0, 0},
        };
        for (int article = 0; article < due.length; article++) {
            for (int what = 0; what <= 12; what++) {
                Checks.same("ofArticle(" + article + ", " + what + ")", x.ofArticle(article, what), due[article][what]);
            }
        }
        Checks.refuses("ofArticle(5, 0)", Checks.INDEX, () -> x.ofArticle(5, 0));
        Checks.refuses("ofArticle(-1, -1)", Checks.INDEX, () -> x.ofArticle(-1, -1));
        Checks.refuses("ofArticle(0, -1)", Checks.ARGUMENT, () -> x.ofArticle(0, -1));
        Checks.refuses("ofArticle(0, 13)", Checks.ARGUMENT, () -> x.ofArticle(0, 13));
    }

    private static void whatBecomesOfIt() {
        OnecodeChancery x = new OnecodeChancery();
        x.pass(5);
        Checks.enact(x, "m0c0=1");
        Checks.lose(x, "m0c0=2x0");
        Checks.same("EXCEPTIONS that are LOST are counted", x.ofArticle(0, 12), 1);
        int[] voted = {1, 35, -1, 0};
        int[] lost = {3, -1, -1, 0};
        for (int what = 8; what <= 11; what++) {
            Checks.same("voted for, " + what, x.ofArticle(0, what), voted[what - 8]);
            Checks.same("LOST, " + what, x.ofArticle(1, what), lost[what - 8]);
        }
        x.pass(29);
        Checks.same("the DAY ahead", x.ofArticle(0, 11), 0);
        x.pass(1);
        Checks.same("from that DAY on", x.ofArticle(0, 11), 1);
        x.pass(100);
        Checks.strike(x, 0);
        int[] repealed = {2, 35, 165, 1};
        for (int what = 8; what <= 11; what++) {
            Checks.same("REPEALED, " + what, x.ofArticle(0, what), repealed[what - 8]);
        }
        x.pass(29);
        Checks.same("the DAY ahead of its end", x.ofArticle(0, 11), 1);
        x.pass(1);
        Checks.same("its end", x.ofArticle(0, 11), 0);
        Checks.same("LOST, never IN FORCE", x.ofArticle(1, 11), 0);
    }

    private static void promise35Text() {
        OnecodeChancery x = new OnecodeChancery();
        Checks.refuses("text(0) without ARTICLES", Checks.INDEX, () -> x.text(0));
        Checks.write(x, "m 0 c 0 1 2 3 - 5 - 0 + 3 + 1 > 040 < 0 9 = 0 0 1");
        Checks.same("two digits apart are no number", x.realm(3), 0);
        Checks.write(x, "m 0 c 0 1 2 3 - 5 - 0 + 3 + 1 > 040 < 009 = 001");
        Checks.same("text(0)", x.text(0), "m0c0123+1+3-0-5>40<9=1");
        Checks.write(x, "m1c3=@000x000");
        Checks.same("text(1)", x.text(1), "m1c3=@0x0");
        Checks.refuses("text(2)", Checks.INDEX, () -> x.text(2));
        Checks.refuses("text(-1)", Checks.INDEX, () -> x.text(-1));
        Checks.same("the same again", x.text(0), "m0c0123+1+3-0-5>40<9=1");
    }
}
