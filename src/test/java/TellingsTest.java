/** Promises 23 to 25, 31, 32 and 38: what CUSTOMS, ARTICLES and the CODE tell. */
public final class TellingsTest {
    public static void main(String[] args) {
        promise23OfRule();
        promise24OfCase();
        ofWhatDayItIsTold();
        manyLeftToCustom();
        promise25Tells();
        theCodeAsAWhole();
        circles();
        notInForceWhateverElse();
        promise31Gain();
        promise32Held();
        promise38Without();
        Checks.end();
    }

    private static void promise23OfRule() {
        OnecodeChancery x = new OnecodeChancery();
        Checks.refuses("ofRule(0, 12) without RULES", Checks.INDEX, () -> x.ofRule(0, 12));
        x.pass(9);
        x.rule(2, 1, 6, 5, 8, 33, 4);
        x.limit(0, 10, 20);
        int[] due = {2, 1, 6, 5, 8, 33, 4, 10, 20, 9, 34, 0};
        for (int what = 0; what <= 11; what++) {
            Checks.same("ofRule(0, " + what + ")", x.ofRule(0, what), due[what]);
        }
        x.dispute(2, 5, 1, 1, 5, 10, 0);
        x.dispute(2, 5, 2, 1, 7, 20, 0);
        x.dispute(2, 2, 2, 1, 5, 21, 0);
        x.dispute(5, 2, 2, 1, 5, 15, 0);
        x.dispute(2, 2, 2, 1, 5, 15, 1);
        Checks.same("CASES of its PARISH as the plaintiff's for which it HOLDS", x.ofRule(0, 11), 2);
        Checks.refuses("ofRule(1, 0)", Checks.INDEX, () -> x.ofRule(1, 0));
        Checks.refuses("ofRule(-1, -1)", Checks.INDEX, () -> x.ofRule(-1, -1));
        Checks.refuses("ofRule(0, 12)", Checks.ARGUMENT, () -> x.ofRule(0, 12));
        Checks.refuses("ofRule(0, -1)", Checks.ARGUMENT, () -> x.ofRule(0, -1));
    }

    private static void promise24OfCase() {
        OnecodeChancery x = new OnecodeChancery();
        Checks.refuses("ofCase(0, 14) without CASES", Checks.INDEX, () -> x.ofCase(0, 14));
        x.rule(4, 3, 15, 0, 0, 25, 1);
        x.rule(1, 3, 15, 0, 0, 15, 1);
        x.tie(3, 2);
        Checks.enact(x, "m3c2=45");
        x.pass(30);
        x.way(2, 1);
        x.dispute(4, 1, 2, 3, 9, 500, 2);
        x.judge(0, 2);
        int[] due = {4, 1, 2, 3, 9, 500, 28, 25, 15, 15, -1, 45, 2, -1};
        for (int what = 0; what <= 13; what++) {
            Checks.same("ofCase(0, " + what + ")", x.ofCase(0, what), due[what]);
        }
        x.dispute(4, 1, 2, 3, 9, 500, 0);
        x.judge(1, 2);
        Checks.same("what the CODE tells", x.ofCase(1, 10), 45);
        Checks.same("its VERDICT", x.ofCase(1, 13), 35);
        Checks.refuses("ofCase(2, 0)", Checks.INDEX, () -> x.ofCase(2, 0));
        Checks.refuses("ofCase(-1, -1)", Checks.INDEX, () -> x.ofCase(-1, -1));
        Checks.refuses("ofCase(0, 14)", Checks.ARGUMENT, () -> x.ofCase(0, 14));
        Checks.refuses("ofCase(0, -1)", Checks.ARGUMENT, () -> x.ofCase(0, -1));
    }

    private static void ofWhatDayItIsTold() {
        OnecodeChancery x = new OnecodeChancery();
        x.rule(0, 0, 15, 0, 0, 20, 1);
        Checks.enact(x, "m0c0=%");
        x.pass(40);
        x.rule(0, 0, 15, 0, 0, 70, 2);
        x.dispute(0, 0, 0, 0, 0, 100, 11);
        x.dispute(0, 0, 0, 0, 0, 100, 10);
        x.dispute(0, 0, 0, 0, 0, 100, 0);
        int[] then = {-1, 20, 70};
        for (int k = 0; k < 3; k++) {
            Checks.same("as of the DAY of the act " + k, x.ofCase(k, 10), then[k]);
            Checks.same("as of this DAY " + k, x.ofCase(k, 11), 70);
        }
        Checks.strike(x, 0);
        x.pass(29);
        Checks.same("ahead of its end", x.ofCase(0, 11), 70);
        x.pass(1);
        Checks.same("at its end", x.ofCase(0, 11), -1);
        x.dispute(0, 0, 0, 0, 0, 100, 1);
        x.dispute(0, 0, 0, 0, 0, 100, 0);
        Checks.same("an act ahead of its end", x.ofCase(3, 10), 70);
        Checks.same("an act at its end", x.ofCase(4, 10), -1);
        Checks.same("an old CASE is told as it was", x.ofCase(1, 10), 20);
        Checks.same("so is what its ARTICLE tells", x.tells(1, 0), 20);
        Checks.same("the CUSTOM of the plaintiff's PARISH then", x.ofCase(1, 7), 20);
        Checks.same("that of the defendant's", x.ofCase(1, 8), 20);
        Checks.same("and by the TIE", x.ofCase(1, 9), 20);
        Checks.enact(x, "m0c0=5");
        x.pass(30);
        Checks.same("so it is without an ARTICLE of today", x.without(1, 1), 20);
        Checks.same("CASES that are told against the CUSTOM of their DAY", x.realm(11), 2);
        x.rule(0, 0, 15, 0, 0, 90, 5);
        Checks.same("a new RULE makes no difference to them", x.realm(11), 2);
        Checks.same("nor a new RULE to the old CASE", x.without(1, 1), 20);
    }

    private static void manyLeftToCustom() {
        OnecodeChancery x = new OnecodeChancery();
        Checks.enact(x, "m0c0=%");
        Checks.enact(x, "m0c1=%");
        Checks.write(x, "m0c2=%");
        x.pass(30);
        x.rule(0, 0, 15, 0, 0, 8, 1);
        x.dispute(0, 0, 0, 0, 0, 100, 0);
        x.dispute(0, 0, 1, 0, 0, 100, 0);
        Checks.same("the first that leaves it to the CUSTOM", x.ofCase(0, 10), 8);
        Checks.same("the second", x.ofCase(1, 10), 8);
        Checks.same("nothing else is IN FORCE", x.without(1, 1), -1);
        Checks.feed(x, "m0c2=3");
        x.amend(2);
        Checks.same("a BILL that leaves it to the CUSTOM no more", x.tells(0, 2), 3);
        Checks.write(x, "m0c0=55");
        Checks.feed(x, "m0c0=66x1");
        x.amend(3);
        x.mood(0, 0, 5);
        x.vote(3);
        x.pass(30);
        x.dispute(0, 0, 0, 0, 0, 100, 0);
        x.dispute(0, 0, 1, 0, 0, 100, 0);
        Checks.same("a GENERAL BILL that was made an EXCEPTION is GENERAL no more", x.ofCase(2, 10), 8);
        Checks.same("what it is an EXCEPTION to, for a CASE to which it does not APPLY", x.ofCase(3, 10), 8);
    }

    private static void promise25Tells() {
        OnecodeChancery x = new OnecodeChancery();
        Checks.refuses("tells(0, 0) without either", Checks.INDEX, () -> x.tells(0, 0));
        x.rule(0, 1, 15, 0, 0, 12, 1);
        x.rule(1, 1, 15, 0, 0, 34, 1);
        Checks.enact(x, "m1c0=50");
        Checks.enact(x, "m1c0+0=60x0");
        Checks.enact(x, "m1c0+1=70x0");
        Checks.enact(x, "m1c0=@0");
        Checks.write(x, "m2c3=%");
        Checks.write(x, "m2c3=@3");
        Checks.enact(x, "m1c0+2=40x1");
        x.pass(30);
        int[][] due = {
            {50, 60, 70, 50, 12, 50, 40},
            {60, 60, 70, 60, 12, 60, 40},
            {70, 60, 70, 70, 12, 70, 40},
            {-2, 60, 70, -2, 12, -2, 40},
            {50, 40, 70, 50, 12, 50, 40},
            {40, 40, 70, 40, 12, 40, 40},
        };
        for (int facts = 0; facts < due.length; facts++) {
            x.dispute(0, 1, 0, 1, facts, 100, 0);
            for (int article = 0; article < 7; article++) {
                Checks.same("tells(" + facts + ", " + article + ")", x.tells(facts, article), due[facts][article]);
            }
        }
        x.dispute(0, 1, 3, 1, 1, 100, 0);
        Checks.same("whether it APPLIES or not", x.tells(6, 0), 50);
        x.dispute(0, 1, 0, 1, 1, 100, 1);
        Checks.same("no EXCEPTION is IN FORCE that DAY", x.tells(7, 0), 50);
        Checks.same("nor what @ names", x.tells(7, 3), -1);
        x.tie(1, 1);
        Checks.same("% by the TIE of the MATTER of the CASE", x.tells(0, 4), 34);
        Checks.refuses("tells(8, 0)", Checks.INDEX, () -> x.tells(8, 0));
        Checks.refuses("tells(-1, 0)", Checks.INDEX, () -> x.tells(-1, 0));
        Checks.refuses("tells(0, 7)", Checks.INDEX, () -> x.tells(0, 7));
        Checks.refuses("tells(0, -1)", Checks.INDEX, () -> x.tells(0, -1));
    }

    private static void theCodeAsAWhole() {
        OnecodeChancery x = new OnecodeChancery();
        Checks.enact(x, "m0c012<100=30");
        Checks.enact(x, "m0c12>50-1=30");
        Checks.enact(x, "m0c2+0=31");
        Checks.enact(x, "m1c0=@0");
        Checks.enact(x, "m0c3+5=%");
        Checks.write(x, "m0c0123=99");
        Checks.lose(x, "m0c0123=98");
        x.pass(30);
        int[][] cases = {{0, 0, 99, 0}, {0, 0, 100, 0}, {1, 0, 51, 0}, {1, 0, 50, 0}, {1, 2, 51, 0}, {1, 2, 100, 0},
            {2, 1, 60, 0}, {2, 3, 100, 0}, {2, 0, 60, 0}, {3, 32, 0, 0}, {3, 0, 0, 0}, {0, 0, 500, 1}, {0, 0, 0, 2}};
        int[] due = {30, -1, 30, 30, 30, -1, -2, 31, 30, -1, -1, 30, -1};
        for (int k = 0; k < cases.length; k++) {
            int[] c = cases[k];
            x.dispute(3, 3, c[0], c[3], c[1], c[2], 0);
            Checks.same("the CODE for the case " + k, x.ofCase(k, 10), due[k]);
        }
        x.rule(3, 0, 15, 0, 0, 1, 1);
        x.rule(3, 0, 15, 0, 0, 2, 1);
        x.pass(1);
        x.dispute(3, 3, 3, 0, 32, 0, 0);
        Checks.same("a CLASH of the CUSTOM is told on", x.ofCase(13, 10), -2);
    }

    private static void circles() {
        OnecodeChancery x = new OnecodeChancery();
        Checks.enact(x, "m0c0=20");
        Checks.enact(x, "m0c0+1=@0x0");
        Checks.enact(x, "m0c0+2=30x0");
        Checks.enact(x, "m0c0+3=@1x1");
        Checks.enact(x, "m0c3=@1");
        x.pass(30);
        int[] facts = {0, 2, 4, 6, 8, 10};
        int[][] due = {{20, 20, 30, 20, 20}, {-3, -3, 30, -3, -3}, {30, 30, 30, 30, 30}, {-2, -2, 30, -2, -2},
            {20, -3, 30, -3, -3}, {-3, -3, 30, -3, -3}};
        for (int k = 0; k < facts.length; k++) {
            x.dispute(0, 0, 0, 0, facts[k], 100, 0);
            for (int article = 0; article < 5; article++) {
                Checks.same("tells(" + k + ", " + article + ")", x.tells(k, article), due[k][article]);
            }
            Checks.same("the CODE for " + k, x.ofCase(k, 10), due[k][0]);
        }
        Checks.enact(x, "m0c0=20");
        x.pass(30);
        x.dispute(0, 0, 0, 0, 2, 100, 0);
        Checks.same("a CIRCLE and a SHARE are a CLASH", x.ofCase(6, 10), -2);
    }

    private static void notInForceWhateverElse() {
        OnecodeChancery x = new OnecodeChancery();
        Checks.write(x, "m0c0=20");
        Checks.enact(x, "m0c0=@0x0");
        Checks.enact(x, "m0c0=@0");
        x.pass(30);
        x.dispute(0, 0, 0, 0, 0, 100, 0);
        Checks.same("a BILL that is come to again is not IN FORCE", x.tells(0, 0), -1);
        Checks.same("nor is it when it is come to", x.tells(0, 1), -1);
        Checks.same("GAP for the CODE too", x.ofCase(0, 10), -1);
        Checks.enact(x, "m0c0=40");
        x.pass(30);
        x.dispute(0, 0, 0, 0, 0, 100, 0);
        Checks.same("a GAP and a SHARE are a CLASH", x.ofCase(1, 10), -2);
    }

    private static void promise31Gain() {
        OnecodeChancery x = new OnecodeChancery();
        for (int rank = 0; rank < 4; rank++) {
            Checks.same("gain(" + rank + ") without CASES", x.gain(rank), 0);
        }
        x.rule(0, 0, 15, 0, 0, 33, 1);
        x.rule(1, 0, 15, 0, 0, 66, 1);
        Checks.enact(x, "m0c12=70");
        x.dispute(0, 1, 1, 0, 0, 199, 0);
        x.dispute(0, 1, 1, 0, 0, 7, 0);
        x.dispute(2, 1, 1, 0, 0, 999, 0);
        x.dispute(0, 1, 0, 0, 0, 100, 0);
        Checks.same("the CODE is silent", x.gain(1), -65 - 2 - 0);
        x.pass(30);
        Checks.same("as if the act was on this DAY, each WORTH cut for itself", x.gain(1), 139 - 65 + 4 - 2 + 699);
        Checks.same("a CLASS that loses", x.gain(0), -33);
        Checks.same("a CLASS without CASES", x.gain(2), 0);
        x.tie(0, 1);
        Checks.same("by the TIE", x.gain(0), -66);
        x.rule(1, 0, 15, 0, 0, 1, 5);
        Checks.same("the CUSTOM as of the DAY of the act", x.gain(0), -66);
        Checks.enact(x, "m0c0=%");
        x.pass(30);
        Checks.same("the CODE by the CUSTOM of this DAY", x.gain(0), 1 - 66);
        Checks.refuses("gain(4)", Checks.INDEX, () -> x.gain(4));
        Checks.refuses("gain(-1)", Checks.INDEX, () -> x.gain(-1));
    }

    private static void promise32Held() {
        OnecodeChancery x = new OnecodeChancery();
        int[] silent = {-1, 0, 0, 60};
        for (int what = 0; what <= 3; what++) {
            Checks.same("held(0, 0, 0, 0, " + what + ") at first", x.held(0, 0, 0, 0, what), silent[what]);
        }
        x.rule(0, 2, 2, 1, 8, 80, 1);
        x.rule(1, 2, 2, 1, 0, 80, 1);
        x.rule(2, 2, 2, 1, 0, 30, 1);
        x.rule(3, 2, 2, 1, 0, 0, 1);
        x.rule(4, 2, 2, 1, 0, 5, 1);
        x.rule(4, 2, 2, 0, 2, 5, 1);
        x.rule(4, 2, 2, 2, 0, 6, 1);
        x.people(2, 20);
        x.people(4, 7);
        int[] due = {30, 20, 0, 10};
        int[] clash = {30, 20, 7, 10};
        int[] none = {-1, 0, 0, 67};
        int[] barred = {30, 20, 0, 20};
        for (int what = 0; what <= 3; what++) {
            Checks.same("held(2, 1, 1, 50, " + what + ")", x.held(2, 1, 1, 50, what), due[what]);
            Checks.same("held(2, 1, 3, 999, " + what + ")", x.held(2, 1, 3, 999, what), clash[what]);
            Checks.same("held(2, 0, 1, 50, " + what + ")", x.held(2, 0, 1, 50, what), none[what]);
            Checks.same("held(1, 1, 63, 50, " + what + ")", x.held(1, 1, 63, 50, what), none[what]);
            Checks.same("held(2, 1, 9, 0, " + what + ")", x.held(2, 1, 9, 0, what), barred[what]);
        }
        x.people(1, 11);
        Checks.same("PEOPLE of two PARISHES together", x.held(2, 1, 1, 50, 0), 80);
        Checks.same("how many", x.held(2, 1, 1, 50, 1), 21);
        x.people(3, 21);
        Checks.same("of several the smallest one, 0 too", x.held(2, 1, 1, 50, 0), 0);
        x.rule(5, 2, 2, 1, 0, 99, 1);
        x.people(5, 21);
        Checks.same("whichever comes first", x.held(2, 1, 1, 50, 0), 0);
        Checks.same("PEOPLE of the PARISH 0 alone", aloneHeld(0, 1, 0), 60);
        Checks.same("a PARISH of one", aloneHeld(0, 1, 1), 1);
        Checks.same("the last PARISH alone", aloneHeld(5, 99, 0), 60);
        Checks.same("and how many", aloneHeld(5, 99, 1), 99);
        x.limit(3, 0, 49);
        Checks.same("by the AMOUNT", x.held(2, 1, 1, 50, 0), 80);
        Checks.refuses("held(4, 0, 64, 0, 0)", Checks.INDEX, () -> x.held(4, 0, 64, 0, 0));
        Checks.refuses("held(-1, 0, 0, 0, 0)", Checks.INDEX, () -> x.held(-1, 0, 0, 0, 0));
        Checks.refuses("held(0, 4, 0, 1000, 4)", Checks.INDEX, () -> x.held(0, 4, 0, 1000, 4));
        Checks.refuses("held(0, -1, 0, 0, 0)", Checks.INDEX, () -> x.held(0, -1, 0, 0, 0));
        int[][] wrong = {{64, 0, 0}, {-1, 0, 0}, {0, 1000, 0}, {0, -1, 0}, {0, 0, 4}, {0, 0, -1}};
        for (int[] w : wrong) {
            Checks.refuses("held, values " + java.util.Arrays.toString(w), Checks.ARGUMENT,
                () -> x.held(0, 0, w[0], w[1], w[2]));
        }
    }

    /** held() of a realm in which one PARISH alone has a RULE, that was sworn on the DAY 3. */
    private static int aloneHeld(int parish, int people, int what) {
        OnecodeChancery x = new OnecodeChancery();
        x.pass(3);
        x.people(parish, people);
        x.rule(parish, 0, 1, 0, 0, 60, 1);
        return x.held(0, 0, 0, 0, what);
    }

    private static void promise38Without() {
        OnecodeChancery x = new OnecodeChancery();
        Checks.refuses("without(0, 0) without either", Checks.INDEX, () -> x.without(0, 0));
        Checks.enact(x, "m0c0=20");
        Checks.enact(x, "m0c0+0=30x0");
        Checks.enact(x, "m0c0+1=@0");
        Checks.write(x, "m0c0=90");
        x.pass(30);
        int[][] due = {{-1, 20, 20, 20}, {-1, 20, 30, 30}, {-1, 20, 20, 20}, {-1, 20, 30, 30}};
        for (int facts = 0; facts < 4; facts++) {
            x.dispute(0, 0, 0, 0, facts, 100, 0);
            for (int article = 0; article < 4; article++) {
                Checks.same("without(" + facts + ", " + article + ")", x.without(facts, article), due[facts][article]);
            }
        }
        Checks.enact(x, "m0c0=50");
        x.pass(30);
        x.dispute(0, 0, 0, 0, 2, 100, 0);
        Checks.same("what is named by @ is not IN FORCE then", x.without(4, 0), -2);
        Checks.same("a CLASH without what clashes", x.without(4, 4), 20);
        Checks.same("an old CASE as of the DAY of its act", x.without(3, 4), 30);
        Checks.same("nothing is changed", x.ofCase(3, 10), 30);
        Checks.refuses("without(5, 0)", Checks.INDEX, () -> x.without(5, 0));
        Checks.refuses("without(-1, 0)", Checks.INDEX, () -> x.without(-1, 0));
        Checks.refuses("without(0, 5)", Checks.INDEX, () -> x.without(0, 5));
        Checks.refuses("without(0, -1)", Checks.INDEX, () -> x.without(0, -1));
    }
}
