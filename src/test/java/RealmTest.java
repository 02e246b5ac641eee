/** Promises 1 to 7 and 20 to 22: the realm, its customs, its cases, its days. */
public final class RealmTest {
    public static void main(String[] args) {
        promise1NewObject();
        promise2People();
        promise3Swap();
        promise4Tie();
        promise5Rule();
        promise6Limit();
        promise7Dispute();
        promise20Pass();
        promise21Call();
        promise22Means();
        Checks.end();
    }

    private static void promise1NewObject() {
        OnecodeChancery x = new OnecodeChancery();
        for (int what = 0; what <= 13; what++) {
            Checks.same("realm(" + what + ") at first", x.realm(what), 0);
        }
        for (int faction = 0; faction < 4; faction++) {
            for (int what = 0; what <= 8; what++) {
                int due = what < 5 ? 0 : what == 5 ? -1 : 5;
                Checks.same("ofFaction(" + faction + ", " + what + ") at first", x.ofFaction(faction, what), due);
            }
        }
        Checks.same("uniformity() at first", x.uniformity(), 1.0);
        Checks.same("isSound() at first", x.isSound(), true);
        Checks.refuses("ofRule(0, 0) at first", Checks.INDEX, () -> x.ofRule(0, 0));
        Checks.refuses("ofCase(0, 0) at first", Checks.INDEX, () -> x.ofCase(0, 0));
        Checks.refuses("ofArticle(0, 0) at first", Checks.INDEX, () -> x.ofArticle(0, 0));
        OnecodeChancery y = new OnecodeChancery();
        y.people(0, 50);
        y.swap(0, 1, 2);
        y.way(0, 3);
        Checks.same("another object has its own PEOPLE", x.people(0, 20), 10);
        Checks.same("another object has its own WORDING", x.means(0, 1), 1);
        Checks.same("another object has its own WAYS", x.way(0, 1), 0);
    }

    private static void promise2People() {
        OnecodeChancery x = new OnecodeChancery();
        for (int parish = 0; parish < 6; parish++) {
            Checks.same("people at first", x.people(parish, 1), 10);
            Checks.same("people, least", x.people(parish, 99), 1);
            Checks.same("people, most", x.people(parish, 40 + parish), 99);
        }
        Checks.refuses("people(6, 10)", Checks.INDEX, () -> x.people(6, 10));
        Checks.refuses("people(-1, 0): the number first", Checks.INDEX, () -> x.people(-1, 0));
        Checks.refuses("people(0, 0)", Checks.ARGUMENT, () -> x.people(0, 0));
        Checks.refuses("people(0, 100)", Checks.ARGUMENT, () -> x.people(0, 100));
        Checks.same("people after what was refused", x.people(0, 10), 40);
    }

    private static void promise3Swap() {
        OnecodeChancery x = new OnecodeChancery();
        Checks.same("swap(2, 1, 4)", x.swap(2, 1, 4), 4);
        Checks.same("means(2, 1)", x.means(2, 1), 4);
        Checks.same("means(2, 4)", x.means(2, 4), 1);
        Checks.same("swap(2, 4, 5): what the word 5 was goes to 4", x.swap(2, 4, 5), 5);
        Checks.same("means(2, 5)", x.means(2, 5), 1);
        Checks.same("swap(2, 5, 0)", x.swap(2, 5, 0), 0);
        Checks.same("means(2, 0)", x.means(2, 0), 1);
        Checks.same("swap of a word with itself", x.swap(2, 1, 1), 4);
        Checks.same("another PARISH keeps its WORDING", x.means(3, 1), 1);
        Checks.refuses("swap(6, 0, 0)", Checks.INDEX, () -> x.swap(6, 0, 0));
        Checks.refuses("swap(-1, 6, 6): the number first", Checks.INDEX, () -> x.swap(-1, 6, 6));
        Checks.refuses("swap(0, 6, 0)", Checks.ARGUMENT, () -> x.swap(0, 6, 0));
        Checks.refuses("swap(0, -1, 0)", Checks.ARGUMENT, () -> x.swap(0, -1, 0));
        Checks.refuses("swap(0, 0, 6)", Checks.ARGUMENT, () -> x.swap(0, 0, 6));
        Checks.refuses("swap(0, 0, -1)", Checks.ARGUMENT, () -> x.swap(0, 0, -1));
        Checks.same("means(0, 0) after what was refused", x.means(0, 0), 0);
    }

    private static void promise4Tie() {
        OnecodeChancery x = new OnecodeChancery();
        for (int matter = 0; matter < 4; matter++) {
            Checks.same("tie at first", x.tie(matter, 2), 0);
            Checks.same("tie from 2", x.tie(matter, 1), 2);
            Checks.same("tie from 1", x.tie(matter, 0), 1);
        }
        Checks.refuses("tie(4, 0)", Checks.INDEX, () -> x.tie(4, 0));
        Checks.refuses("tie(-1, 3): the number first", Checks.INDEX, () -> x.tie(-1, 3));
        Checks.refuses("tie(0, 3)", Checks.ARGUMENT, () -> x.tie(0, 3));
        Checks.refuses("tie(0, -1)", Checks.ARGUMENT, () -> x.tie(0, -1));
        Checks.same("tie after what was refused", x.tie(0, 0), 0);
        whoseCustomItIs();
    }

    private static void whoseCustomItIs() {
        OnecodeChancery x = new OnecodeChancery();
        x.rule(0, 0, 15, 0, 0, 60, 1);
        x.rule(1, 0, 15, 0, 0, 40, 1);
        x.rule(2, 0, 15, 0, 0, 10, 1);
        x.rule(2, 0, 15, 0, 0, 20, 1);
        x.rule(5, 0, 15, 0, 0, 0, 1);
        int[][] sides = {{0, 1}, {1, 0}, {0, 2}, {2, 0}, {0, 3}, {3, 0}, {2, 3}, {3, 2}, {3, 4}, {2, 2},
            {5, 0}, {0, 5}, {5, 2}, {2, 5}, {5, 3}, {3, 5}};
        int[] plaintiffs = {60, 40, 60, -2, 60, -1, -2, -1, -1, -2, 0, 60, 0, -2, 0, -1};
        int[] defendants = {40, 60, -2, 60, -1, 60, -1, -2, -1, -2, 60, 0, -2, 0, -1, 0};
        int[] milder = {40, 40, 60, 60, 60, 60, -2, -2, -1, -2, 0, 0, 0, 0, 0, 0};
        for (int k = 0; k < sides.length; k++) {
            x.dispute(sides[k][0], sides[k][1], 0, 0, 0, 100, 0);
        }
        int[][] due = {plaintiffs, defendants, milder};
        for (int tie = 0; tie < 3; tie++) {
            x.tie(0, tie);
            for (int k = 0; k < sides.length; k++) {
                Checks.same("TIE " + tie + ", case " + k, x.ofCase(k, 9), due[tie][k]);
            }
        }
    }

    private static void promise5Rule() {
        OnecodeChancery x = new OnecodeChancery();
        x.pass(7);
        Checks.same("the first RULE", x.rule(5, 3, 15, 63, 0, 100, 5), 0);
        Checks.same("the second RULE", x.rule(0, 0, 1, 0, 63, 0, 1), 1);
        int[] first = {5, 3, 15, 63, 0, 100, 5, 0, 999, 7, 65, 0};
        int[] second = {0, 0, 1, 0, 63, 0, 1, 0, 999, 7, 61, 0};
        for (int what = 0; what <= 11; what++) {
            Checks.same("ofRule(0, " + what + ")", x.ofRule(0, what), first[what]);
            Checks.same("ofRule(1, " + what + ")", x.ofRule(1, what), second[what]);
        }
        Checks.refuses("rule of PARISH 6", Checks.INDEX, () -> x.rule(6, 0, 1, 0, 0, 0, 1));
        Checks.refuses("rule of PARISH -1", Checks.INDEX, () -> x.rule(-1, 0, 1, 0, 0, 0, 1));
        Checks.refuses("rule of MATTER 4", Checks.INDEX, () -> x.rule(0, 4, 1, 0, 0, 0, 1));
        Checks.refuses("rule of MATTER -1, all else wrong", Checks.INDEX, () -> x.rule(0, -1, 0, -1, -1, -1, 0));
        int[][] wrong = {{0, 0, 0, 0, 1}, {16, 0, 0, 0, 1}, {1, 64, 0, 0, 1}, {1, -1, 0, 0, 1}, {1, 0, 64, 0, 1}, {1, 1, 1, 0, 1}, {1, 33, 32, 0, 1},
            {1, 0, -1, 0, 1}, {1, 3, 6, 0, 1}, {1, 0, 0, 101, 1}, {1, 0, 0, -1, 1}, {1, 0, 0, 0, 0}, {1, 0, 0, 0, 6},
            {-1, 0, 0, 0, 1}};
        for (int[] w : wrong) {
            Checks.refuses("rule" + java.util.Arrays.toString(w), Checks.ARGUMENT,
                () -> x.rule(0, 0, w[0], w[1], w[2], w[3], w[4]));
        }
        Checks.same("RULES after what was refused", x.realm(1), 2);
        for (int k = 2; k < 40; k++) {
            Checks.same("the RULE " + k, x.rule(0, 0, 1, 1, 2, 50, 1), k);
        }
        Checks.refuses("rule 41", Checks.STATE, () -> x.rule(0, 0, 1, 0, 0, 0, 1));
        Checks.refuses("rule 41 with a wrong value", Checks.ARGUMENT, () -> x.rule(0, 0, 0, 0, 0, 0, 1));
        Checks.refuses("rule 41 with a wrong number", Checks.INDEX, () -> x.rule(6, 0, 0, 0, 0, 0, 1));
        Checks.same("RULES at most", x.realm(1), 40);
        whatHolds();
    }

    private static void whatHolds() {
        OnecodeChancery x = new OnecodeChancery();
        x.pass(10);
        x.rule(0, 1, 4, 3, 8, 70, 2);
        x.pass(5);
        int[][] cases = {{2, 1, 3, 100, 0}, {1, 1, 3, 100, 0}, {2, 0, 3, 100, 0}, {2, 1, 1, 100, 0}, {2, 1, 11, 100, 0},
            {2, 1, 55, 100, 0}, {2, 1, 3, 100, 5}, {2, 1, 3, 100, 6}, {2, 1, 3, 0, 0}, {2, 1, 3, 999, 0}};
        int[] due = {70, -1, -1, -1, -1, 70, 70, -1, 70, 70};
        for (int k = 0; k < cases.length; k++) {
            int[] c = cases[k];
            x.dispute(0, 1, c[0], c[1], c[2], c[3], c[4]);
            Checks.same("what the CUSTOM tells for the case " + k, x.ofCase(k, 7), due[k]);
            Checks.same("the other CUSTOM for the case " + k, x.ofCase(k, 8), -1);
        }
        Checks.same("for how many it HOLDS", x.ofRule(0, 11), 5);
        strongestTell();
    }

    private static void strongestTell() {
        OnecodeChancery x = new OnecodeChancery();
        x.dispute(0, 0, 0, 0, 3, 100, 0);
        x.rule(0, 0, 15, 0, 0, 30, 5);
        Checks.same("the only one", x.ofCase(0, 7), 30);
        x.rule(0, 0, 15, 1, 0, 40, 1);
        Checks.same("10 for a FACT and 1 beat 5", x.ofCase(0, 7), 40);
        x.rule(0, 0, 15, 0, 4, 40, 1);
        Checks.same("as strong, the same SHARE", x.ofCase(0, 7), 40);
        x.rule(0, 0, 15, 2, 0, 41, 1);
        Checks.same("as strong, another SHARE", x.ofCase(0, 7), -2);
        x.rule(0, 0, 15, 2, 0, 40, 1);
        Checks.same("still a CLASH", x.ofCase(0, 7), -2);
        x.rule(0, 0, 15, 2, 0, 0, 2);
        Checks.same("a stronger one ends the CLASH", x.ofCase(0, 7), 0);
        x.rule(0, 0, 15, 1, 4, 9, 1);
        Checks.same("NEEDS and BARS both count", x.ofCase(0, 7), 9);
        x.rule(1, 0, 15, 3, 4, 99, 5);
        Checks.same("another PARISH has no say", x.ofCase(0, 7), 9);
        x.rule(0, 0, 15, 7, 0, 99, 5);
        Checks.same("a stronger one that does not HOLD has no say", x.ofCase(0, 7), 9);
    }

    private static void promise6Limit() {
        OnecodeChancery x = new OnecodeChancery();
        x.rule(0, 0, 15, 1, 6, 70, 3);
        Checks.same("limit(0, 100, 200)", x.limit(0, 100, 200), 33);
        Checks.same("the least AMOUNT", x.ofRule(0, 7), 100);
        Checks.same("the greatest AMOUNT", x.ofRule(0, 8), 200);
        int[] amounts = {99, 100, 150, 200, 201};
        int[] due = {-1, 70, 70, 70, -1};
        for (int k = 0; k < amounts.length; k++) {
            x.dispute(0, 0, 0, 0, 1, amounts[k], 0);
            Checks.same("AMOUNT " + amounts[k], x.ofCase(k, 7), due[k]);
        }
        Checks.refuses("limit of a RULE that is not there", Checks.INDEX, () -> x.limit(1, 0, 0));
        Checks.refuses("limit(-1, -1, -1)", Checks.INDEX, () -> x.limit(-1, -1, -1));
        Checks.refuses("least -1", Checks.ARGUMENT, () -> x.limit(0, -1, 0));
        Checks.refuses("least 1000", Checks.ARGUMENT, () -> x.limit(0, 1000, 1000));
        Checks.refuses("most 1000", Checks.ARGUMENT, () -> x.limit(0, 0, 1000));
        Checks.refuses("most -1", Checks.ARGUMENT, () -> x.limit(0, 0, -1));
        Checks.refuses("most below least", Checks.ARGUMENT, () -> x.limit(0, 6, 5));
        Checks.same("the least AMOUNT after what was refused", x.ofRule(0, 7), 100);
        Checks.same("least and most alike", x.limit(0, 5, 5), 33);
        Checks.same("the widest", x.limit(0, 0, 999), 33);
        Checks.same("for how many it HOLDS then", x.ofRule(0, 11), 5);
    }

    private static void promise7Dispute() {
        OnecodeChancery x = new OnecodeChancery();
        x.pass(20);
        x.swap(1, 0, 5);
        x.swap(2, 0, 3);
        Checks.same("the first CASE", x.dispute(1, 2, 3, 2, 1 + 2, 999, 20), 0);
        int[] due = {1, 2, 3, 2, 32 + 2, 999, 0, -1, -1, -1, -1, -1, -1, -1};
        for (int what = 0; what <= 13; what++) {
            Checks.same("ofCase(0, " + what + ")", x.ofCase(0, what), due[what]);
        }
        x.swap(1, 0, 1);
        Checks.same("FACTS stay the real ones of that time", x.ofCase(0, 4), 34);
        Checks.same("the second CASE", x.dispute(1, 2, 0, 0, 1, 0, 0), 1);
        Checks.same("its FACTS in the new WORDING", x.ofCase(1, 4), 2);
        Checks.same("its DAY", x.ofCase(1, 6), 20);
        int[][] numbers = {{6, 0, 0, 0}, {-1, 0, 0, 0}, {0, 6, 0, 0}, {0, -1, 0, 0}, {0, 0, 4, 0}, {0, 0, -1, 0},
            {0, 0, 0, 4}, {0, 0, 0, -1}};
        for (int[] n : numbers) {
            Checks.refuses("dispute" + java.util.Arrays.toString(n), Checks.INDEX,
                () -> x.dispute(n[0], n[1], n[2], n[3], 64, 1000, -1));
        }
        int[][] values = {{64, 0, 0}, {-1, 0, 0}, {0, 1000, 0}, {0, -1, 0}, {0, 0, 21}, {0, 0, -1}};
        for (int[] v : values) {
            Checks.refuses("dispute, values " + java.util.Arrays.toString(v), Checks.ARGUMENT,
                () -> x.dispute(0, 0, 0, 0, v[0], v[1], v[2]));
        }
        Checks.same("CASES after what was refused", x.realm(2), 2);
        for (int k = 2; k < 24; k++) {
            Checks.same("the CASE " + k, x.dispute(5, 5, 3, 3, 63, 0, 0), k);
        }
        Checks.refuses("dispute 25", Checks.STATE, () -> x.dispute(0, 0, 0, 0, 0, 0, 0));
        Checks.refuses("dispute 25 with a wrong value", Checks.ARGUMENT, () -> x.dispute(0, 0, 0, 0, 0, 0, 21));
        Checks.refuses("dispute 25 with a wrong number", Checks.INDEX, () -> x.dispute(0, 0, 0, 4, 0, 0, 21));
        Checks.same("CASES at most", x.realm(2), 24);
    }

    private static void promise20Pass() {
        OnecodeChancery x = new OnecodeChancery();
        Checks.same("pass(1)", x.pass(1), 1);
        Checks.same("pass(400)", x.pass(400), 401);
        Checks.refuses("pass(0)", Checks.ARGUMENT, () -> x.pass(0));
        Checks.refuses("pass(401)", Checks.ARGUMENT, () -> x.pass(401));
        Checks.refuses("pass(-1)", Checks.ARGUMENT, () -> x.pass(-1));
        Checks.refuses("pass of the greatest int", Checks.ARGUMENT, () -> x.pass(Integer.MAX_VALUE));
        for (int k = 0; k < 6; k++) {
            x.pass(400);
        }
        Checks.same("DAY", x.realm(0), 2801);
        Checks.refuses("pass beyond DAY 3000", Checks.STATE, () -> x.pass(200));
        Checks.refuses("pass(401) late: the value first", Checks.ARGUMENT, () -> x.pass(401));
        Checks.same("DAY after what was refused", x.realm(0), 2801);
        Checks.same("up to DAY 3000", x.pass(199), 3000);
        Checks.refuses("pass(1) on DAY 3000", Checks.STATE, () -> x.pass(1));
    }

    private static void promise21Call() {
        OnecodeChancery x = new OnecodeChancery();
        for (int k = 1; k <= 5; k++) {
            Checks.same("call " + k, x.call(), k);
            Checks.same("REFUSED", x.realm(13), k);
        }
    }

    private static void promise22Means() {
        OnecodeChancery x = new OnecodeChancery();
        for (int parish = 0; parish < 6; parish++) {
            for (int fact = 0; fact < 6; fact++) {
                Checks.same("means at first", x.means(parish, fact), fact);
            }
        }
        Checks.refuses("means(6, 0)", Checks.INDEX, () -> x.means(6, 0));
        Checks.refuses("means(-1, 0)", Checks.INDEX, () -> x.means(-1, 0));
        Checks.refuses("means(0, 6)", Checks.INDEX, () -> x.means(0, 6));
        Checks.refuses("means(0, -1)", Checks.INDEX, () -> x.means(0, -1));
    }
}
