import java.util.ArrayList;
import java.util.List;

/** The bounds that the document names for a TEXT (section 2, promises 8 to 10, 26 and 35), one method a sentence. */
public final class TextBoundsTest {
    private static final String NO_ARTICLE = "no ARTICLE";

    public static void main(String[] args) {
        signsOfAText();
        emptyBehindWrite();
        emptyBehindAmend();
        matterIsOneDigit();
        oneOrMoreClassesAscending();
        asManyConditionsAsOneLikes();
        conditionsInAnyOrder();
        factsAreOneDigit();
        theSameFactMayComeAgain();
        limitsAreNumbers();
        atMostTwoLimits();
        thenTheEqualSign();
        outcomeOfZeroTo100();
        outcomeThatNamesAnArticle();
        outcomeByCustom();
        exceptionToAnArticleThatThereIs();
        oneToThreeDigits();
        blanksAnywhere();
        noBlanksBetweenDigits();
        everyTextNextToAnArticle();
        amendNamesSmallerNumbers();
        amendKeepsItsNumber();
        atMost24Articles();
        whatIsLostMayBeNamed();
        leastAndGreatestAmount();
        outcomesAsNumbers();
        exceptionsAreCounted();
        writtenAnew();
        Checks.end();
    }

    /** Written third, behind two ARTICLES: how it is written anew, or that it is none. */
    private static String written(String text) {
        OnecodeChancery x = new OnecodeChancery();
        Checks.write(x, "m0c0=1");
        Checks.write(x, "m0c0=2");
        int number = Checks.write(x, text);
        Checks.same("ARTICLES behind " + text, x.realm(3), number == -1 ? 2 : 3);
        Checks.same("signs behind " + text, x.realm(12), 0);
        return number == 2 ? x.text(2) : number == -1 ? NO_ARTICLE : "the number " + number;
    }

    private static void is(String text, String due) {
        Checks.same(text, written(text), due);
    }

    private static void isNone(String... texts) {
        for (String text : texts) {
            is(text, NO_ARTICLE);
        }
    }

    private static void signsOfAText() {
        Checks.sentence("a TEXT is fed sign by sign (at most 60 signs)");
        String[] texts = {"m0c0" + " ".repeat(54) + "=1", " ".repeat(53) + "m1c3=%x", "m2c1=@1x1" + " ".repeat(51),
            "m0c0" + "+5".repeat(27) + "=7"};
        String[] due = {"m0c0=1", NO_ARTICLE, "m2c1=@1x1", "m0c0+5=7"};
        for (int k = 0; k < texts.length; k++) {
            Checks.same("signs", texts[k].length(), 60);
            is(texts[k], due[k]);
            is(texts[k].substring(0, 59), k == 0 || k == 3 ? NO_ARTICLE : k == 1 ? "m1c3=%" : due[k]);
        }
        OnecodeChancery x = new OnecodeChancery();
        Checks.same("signs at first", x.realm(12), 0);
        for (int k = 1; k <= 60; k++) {
            Checks.same("feed", x.feed(32), k);
        }
        Checks.refuses("a sign more", Checks.STATE, () -> x.feed(32));
        Checks.same("signs", x.realm(12), 60);
    }

    private static void emptyBehindWrite() {
        Checks.sentence("write: the TEXT is empty then, whether it is one or not");
        OnecodeChancery x = new OnecodeChancery();
        Checks.same("an empty TEXT is none", x.write(), -1);
        Checks.feed(x, "m0c0=");
        Checks.same("what is none", x.write(), -1);
        Checks.same("signs", x.realm(12), 0);
        Checks.same("its end alone", Checks.write(x, "5"), -1);
        Checks.same("signs", x.realm(12), 0);
        Checks.same("what is one", Checks.write(x, "m0c0=5"), 0);
        Checks.same("signs", x.realm(12), 0);
        Checks.same("nothing behind it", x.write(), -1);
        Checks.same("the same anew", Checks.write(x, "m0c0=5"), 1);
        Checks.same("60 signs anew, the first", x.feed(32), 1);
    }

    private static void emptyBehindAmend() {
        Checks.sentence("amend: the TEXT is empty then, whether it takes its place or not");
        OnecodeChancery x = new OnecodeChancery();
        Checks.write(x, "m0c0=5");
        Checks.same("an empty TEXT", x.amend(0), false);
        String[] texts = {"m0c0=", "6", "m0c0=6x0", "m0c0=@0", "m0c0=7"};
        for (String text : texts) {
            Checks.feed(x, text);
            Checks.same("amend by " + text, x.amend(0), text.equals("m0c0=7"));
            Checks.same("signs behind " + text, x.realm(12), 0);
            Checks.same("what it says", x.text(0), text.equals("m0c0=7") ? text : "m0c0=5");
            Checks.same("ARTICLES", x.realm(3), 1);
        }
        Checks.same("nothing is left", x.amend(0), false);
    }

    private static void matterIsOneDigit() {
        Checks.sentence("\"m\" and a MATTER (one digit)");
        for (char sign = 32; sign < 127; sign++) {
            is("m" + sign + "c0=1", sign >= '0' && sign <= '3' ? "m" + sign + "c0=1" : NO_ARTICLE);
            is(sign + "0c0=1", sign == 'm' ? "m0c0=1" : NO_ARTICLE);
        }
        isNone("mc0=1", "m00c0=1", "m01c0=1", "m10c0=1", "m0 0c0=1", "0c0=1", "c0=1", "mm0c0=1", "m0m0c0=1", "m", "m0");
    }

    private static void oneOrMoreClassesAscending() {
        Checks.sentence("\"c\" and one or more CLASSES (one digit each, each greater than the one ahead)");
        List<String> all = new ArrayList<>(List.of(""));
        for (int from = 0; from < all.size() && all.size() < 5000; from++) {
            if (all.get(from).length() < 5) {
                for (char digit = '0'; digit <= '4'; digit++) {
                    all.add(all.get(from) + digit);
                }
            }
        }
        Checks.same("how many are looked at", all.size(), 1 + 5 + 25 + 125 + 625 + 3125);
        for (String classes : all) {
            boolean isDue = !classes.isEmpty() && classes.indexOf('4') < 0;
            for (int k = 1; k < classes.length(); k++) {
                isDue &= classes.charAt(k) > classes.charAt(k - 1);
            }
            is("m0c" + classes + "=1", isDue ? "m0c" + classes + "=1" : NO_ARTICLE);
        }
        isNone("m00=1", "m0=1", "m0cc0=1", "m0c0c1=1", "m0c5=1", "m0c9=1", "m0c09=1", "m0C0=1", "m0c", "m0c0", "m0c+0=1");
    }

    private static void asManyConditionsAsOneLikes() {
        Checks.sentence("then conditions, as many as one likes");
        is("m0c0=1", "m0c0=1");
        for (int many = 1; many <= 27; many++) {
            is("m0c0" + "+3".repeat(many) + "=1", "m0c0+3=1");
            is("m0c0" + "-3".repeat(many) + "=1", "m0c0-3=1");
        }
        is("m0c0+0+1+2+3+4+5-0-1-2-3-4-5<999>999<=1", NO_ARTICLE);
        is("m0c0+0+1+2+3+4+5-0-1-2-3-4-5<999>999=1", "m0c0+0+1+2+3+4+5-0-1-2-3-4-5<999>999=1");
        isNone("m0c00=1", "m0c0*1=1", "m0c0,+1=1", "m0c0++1=1", "m0c0+1-=1", "m0c0+-1=1", "m0c0<>1=1");
    }

    private static void conditionsInAnyOrder() {
        Checks.sentence("conditions in any order");
        String[] parts = {"+4", "-2", "<9", ">05"};
        for (int order = 0; order < 256; order++) {
            int[] places = {order & 3, order >> 2 & 3, order >> 4 & 3, order >> 6};
            int all = 1 << places[0] | 1 << places[1] | 1 << places[2] | 1 << places[3];
            if (all != 15) {
                continue;
            }
            StringBuilder text = new StringBuilder("m0c0");
            for (int place : places) {
                text.append(parts[place]);
            }
            boolean isLessFirst = text.indexOf("<") < text.indexOf(">");
            is(text + "=1", "m0c0+4-2" + (isLessFirst ? "<9>5" : ">5<9") + "=1");
        }
    }

    private static void factsAreOneDigit() {
        Checks.sentence("\"+\" or \"-\" and a FACT (one digit)");
        for (char kind : new char[] {'+', '-'}) {
            for (char sign = 33; sign < 127; sign++) {
                String text = "m0c0" + kind + sign + "=1";
                is(text, sign >= '0' && sign <= '5' ? text : NO_ARTICLE);
            }
            for (char digit = '0'; digit <= '9'; digit++) {
                isNone("m0c0" + kind + digit + "0=1", "m0c0" + kind + "0" + digit + "=1");
            }
            isNone("m0c0" + kind + "=1", "m0c0" + kind, "m0c0" + kind + " =1", "m0c0" + kind + "1 2=1");
        }
    }

    private static void theSameFactMayComeAgain() {
        Checks.sentence("a FACT: the same may come again");
        for (int fact = 0; fact < 6; fact++) {
            is("m0c0+" + fact + "+" + fact + "=1", "m0c0+" + fact + "=1");
            is("m0c0-" + fact + "-" + fact + "=1", "m0c0-" + fact + "=1");
            is("m0c0-" + fact + "+" + fact + "-" + fact + "=1", "m0c0+" + fact + "-" + fact + "=1");
        }
    }

    private static void limitsAreNumbers() {
        Checks.sentence("\"<\" or \">\" and a number");
        for (char kind : new char[] {'<', '>'}) {
            for (int number = 0; number <= 999; number++) {
                String text = "m0c0" + kind + number + "=1";
                is(text, text);
            }
            isNone("m0c0" + kind + "1000=1", "m0c0" + kind + "=1", "m0c0" + kind + "-1=1", "m0c0" + kind + "+1=1",
                "m0c0" + kind + "%=1", "m0c0" + kind + "@0=1", "m0c0" + kind + "x=1", "m0c0" + kind, "m0c0" + kind + "1");
        }
    }

    private static void atMostTwoLimits() {
        Checks.sentence("\"<\" or \">\" (two of these at most in a TEXT)");
        char[] kinds = {'<', '>'};
        for (char one : kinds) {
            is("m0c0" + one + "7=1", "m0c0" + one + "7=1");
            for (char two : kinds) {
                is("m0c0" + one + "7" + two + "8=1", "m0c0" + one + "7" + two + "8=1");
                is("m0c0" + one + "7" + two + "7=1", "m0c0" + one + "7" + two + "7=1");
                is("m0c0" + one + "7+0" + two + "8-1=1", "m0c0+0-1" + one + "7" + two + "8=1");
                for (char three : kinds) {
                    isNone("m0c0" + one + "7" + two + "8" + three + "9=1", "m0c0" + one + "7" + two + "7" + three + "7=1",
                        "m0c0" + one + "7+0" + two + "8-1" + three + "9=1");
                }
            }
        }
    }

    private static void thenTheEqualSign() {
        Checks.sentence("\"=\"; then an outcome");
        isNone("m0c0", "m0c01", "m0c0 1x0", "m0c0%", "m0c0@0", "m0c0+01", "m0c0==1", "m0c0=", "m0c0=x0", "m0c0=+0=1",
            "m0c0=1=1", "m0c0=1+0", "m0c0=1<5", "=1", "m0=1c0");
        for (char sign = 33; sign < 127; sign++) {
            is("m0c0" + sign + "1", sign == '=' ? "m0c0=1" : NO_ARTICLE);
        }
    }

    private static void outcomeOfZeroTo100() {
        Checks.sentence("an outcome: a number of 0 to 100");
        for (int number = 0; number <= 1000; number++) {
            is("m0c0=" + number, number <= 100 ? "m0c0=" + number : NO_ARTICLE);
        }
        isNone("m0c0=-1", "m0c0=+1", "m0c0=1.", "m0c0=a", "m0c0=0x64", "m0c0=1%", "m0c0=1@0");
    }

    private static void outcomeThatNamesAnArticle() {
        Checks.sentence("\"@\" and the number of an ARTICLE that there is");
        OnecodeChancery x = new OnecodeChancery();
        Checks.same("none at first", Checks.write(x, "m0c0=@0"), -1);
        Checks.write(x, "m0c0=1");
        for (int there = 1; there <= 5; there++) {
            Checks.same("its own number", Checks.write(x, "m0c0=@" + there), -1);
            Checks.same("one more", Checks.write(x, "m0c0=@" + (there + 1)), -1);
            Checks.same("the last one", Checks.write(x, "m0c0=@" + (there - 1)), there);
            Checks.same("what it says", x.text(there), "m0c0=@" + (there - 1));
        }
        OnecodeChancery y = Sample.realmOfBills(24);
        Checks.feed(y, "m0c0=@22");
        Checks.same("the last but one of 24", y.amend(23), true);
        isNone("m0c0=@2", "m0c0=@23", "m0c0=@24", "m0c0=@999", "m0c0=@", "m0c0=@x0", "m0c0=@@0", "m0c0=@%", "m0c0=@-1");
        is("m0c0=@0", "m0c0=@0");
        is("m0c0=@1", "m0c0=@1");
    }

    private static void outcomeByCustom() {
        Checks.sentence("an outcome: or \"%\"");
        is("m0c0=%", "m0c0=%");
        is("m0c0=%x1", "m0c0=%x1");
        isNone("m0c0=%%", "m0c0=%0", "m0c0=0%", "m0c0=%@0", "m0c0%", "m0c0=%=1", "m0c0=%+1", "m0c%=1", "m%c0=1");
    }

    private static void exceptionToAnArticleThatThereIs() {
        Checks.sentence("at the end \"x\" and the number of an ARTICLE that there is, or nothing");
        OnecodeChancery x = new OnecodeChancery();
        Checks.same("none at first", Checks.write(x, "m0c0=1x0"), -1);
        Checks.write(x, "m0c0=1");
        for (int there = 1; there <= 5; there++) {
            Checks.same("its own number", Checks.write(x, "m0c0=1x" + there), -1);
            Checks.same("one more", Checks.write(x, "m0c0=1x" + (there + 1)), -1);
            Checks.same("the last one", Checks.write(x, "m0c0=1x" + (there - 1)), there);
            Checks.same("to which it is an EXCEPTION", x.ofArticle(there, 7), there - 1);
        }
        OnecodeChancery y = Sample.realmOfBills(24);
        Checks.feed(y, "m0c0=1x22");
        Checks.same("the last but one of 24", y.amend(23), true);
        is("m0c0=1", "m0c0=1");
        is("m0c0=1x0", "m0c0=1x0");
        is("m0c0=@0x1", "m0c0=@0x1");
        isNone("m0c0=1x", "m0c0=1x2", "m0c0=1x24", "m0c0=1x999", "m0c0=1xx0", "m0c0=1x0x1", "m0c0=1x0 x1", "m0c0=1X0",
            "m0c0x0=1", "xm0c0=1", "m0c0=1x0=1", "m0c0=1x-0", "m0c0=1x0+1", "m0c0=1x%", "m0c0=1 0");
        for (char sign = 33; sign < 127; sign++) {
            String due = sign >= '0' && sign <= '9' ? "m0c0=1" + sign : NO_ARTICLE;
            is("m0c0=1" + sign, due);
            is("m0c0=%" + sign, NO_ARTICLE);
            is("m0c0=1x0" + sign, sign == '0' || sign == '1' ? "m0c0=1x" + sign : NO_ARTICLE);
        }
    }

    private static void oneToThreeDigits() {
        Checks.sentence("numbers have 1 to 3 digits (leading zeros are let)");
        String[][] places = {{"m0c0<", "=1"}, {"m0c0>", "=1"}, {"m0c0=", ""}, {"m0c0=", "x0"}, {"m0c0=@", ""},
            {"m0c0=@", "x1"}, {"m0c0=1x", ""}, {"m0c0=%x", ""}, {"m0c0=@0x", ""}};
        for (String[] place : places) {
            for (int digit = 0; digit <= 1; digit++) {
                String due = place[0] + digit + place[1];
                is(place[0] + digit + place[1], due);
                is(place[0] + "0" + digit + place[1], due);
                is(place[0] + "00" + digit + place[1], due);
                isNone(place[0] + "000" + digit + place[1], place[0] + "0000" + digit + place[1]);
            }
            isNone(place[0] + place[1], place[0] + " " + place[1]);
        }
        is("m0c0<099>099=099", "m0c0<99>99=99");
        is("m0c0<100>999=100", "m0c0<100>999=100");
        isNone("m0c0<0100=1", "m0c0=0100", "m0c0<9999=1");
    }

    private static void blanksAnywhere() {
        Checks.sentence("blanks may stand anywhere");
        String[] texts = {"m1c023+4-5<120>45=100x1", "m2c13>7=@01x001", "m3c0=%", "m0c0123-0+0<9<8=55x0"};
        for (String text : texts) {
            String due = written(text);
            Checks.same("it is an ARTICLE", due.equals(NO_ARTICLE), false);
            StringBuilder all = new StringBuilder();
            for (int place = 0; place <= text.length(); place++) {
                boolean isInside = isInsideNumber(text, place);
                for (int blanks = 1; blanks <= 3; blanks++) {
                    is(text.substring(0, place) + " ".repeat(blanks) + text.substring(place), isInside ? NO_ARTICLE : due);
                }
                all.append(isInside ? "" : " ").append(place < text.length() ? text.substring(place, place + 1) : "");
            }
            is(all.toString(), due);
        }
        isNone(" ", " ".repeat(60));
    }

    /** Whether both signs next to that place are digits of one number: CLASSES, MATTERS and FACTS are none. */
    private static boolean isInsideNumber(String text, int place) {
        if (place == 0 || place == text.length()) {
            return false;
        }
        boolean isBetween = Character.isDigit(text.charAt(place - 1)) && Character.isDigit(text.charAt(place));
        int start = place - 1;
        while (Character.isDigit(text.charAt(start))) {
            start--;
        }
        return isBetween && "<>=@x".indexOf(text.charAt(start)) >= 0;
    }

    private static void noBlanksBetweenDigits() {
        Checks.sentence("but not between two digits of a number");
        isNone("m0c0<1 0=1", "m0c0<10 0=1", "m0c0>1 00=1", "m0c0=1 0", "m0c0=10 0", "m0c0=0 1", "m0c0=@0 0", "m0c0=@0 1",
            "m0c0=1x0 0", "m0c0=1x0 1", "m0c0=1x00 1", "m0c0<0  1=1");
        is("m0c0<10 =1", "m0c0<10=1");
        is("m0c0< 10=1", "m0c0<10=1");
        is("m0c0<1 >0=1", "m0c0<1>0=1");
        is("m0c0<1 +0=1", "m0c0+0<1=1");
        is("m0c0= 10 x 0 ", "m0c0=10x0");
    }

    /** Every TEXT that is one sign away from an ARTICLE, held against the form in PlainRealm. */
    private static void everyTextNextToAnArticle() {
        Checks.sentence("it is an ARTICLE, if it is made so (every TEXT one sign away)");
        String[] texts = {"m1c02+4<20=10x1", "m0c123-5>7-0=@0x01", "m3c0 =% ", "m2c3>1<02= 9"};
        for (String text : texts) {
            for (int place = 0; place <= text.length(); place++) {
                if (place < text.length()) {
                    asThePlainRealm(text.substring(0, place) + text.substring(place + 1));
                }
                for (char sign = 32; sign < 127; sign++) {
                    asThePlainRealm(text.substring(0, place) + sign + text.substring(place));
                    if (place < text.length()) {
                        asThePlainRealm(text.substring(0, place) + sign + text.substring(place + 1));
                    }
                }
            }
        }
    }

    private static void asThePlainRealm(String text) {
        PlainRealm plain = new PlainRealm();
        plain.fed.append(text);
        PlainRealm.Said said = plain.read(2);
        is(text, said == null ? NO_ARTICLE : said.text());
    }

    private static void amendNamesSmallerNumbers() {
        Checks.sentence("if it is an ARTICLE whose \"x\" and \"@\" name smaller numbers than its own");
        for (int bill = 0; bill < 4; bill++) {
            for (int named = 0; named < 5; named++) {
                for (String text : new String[] {"m1c1=@" + named, "m1c1=3x" + named}) {
                    OnecodeChancery x = Sample.realmOfBills(4);
                    Checks.feed(x, text);
                    Checks.same("amend(" + bill + ") by " + text, x.amend(bill), named < bill);
                    Checks.same("what it says", x.text(bill), named < bill ? text : "m0c0=" + bill);
                }
            }
        }
        OnecodeChancery x = Sample.realmOfBills(4);
        String[] both = {"m0c0=@1x2", "m0c0=@2x1", "m0c0=@2x2", "m0c0=@1x1"};
        for (int k = 0; k < both.length; k++) {
            Checks.feed(x, both[k]);
            Checks.same("amend(2) by " + both[k], x.amend(2), k == 3);
        }
    }

    private static void amendKeepsItsNumber() {
        Checks.sentence("its number stays, and who is PLEDGED for it");
        OnecodeChancery x = Sample.realmOfBills(3);
        x.pledge(0, 1);
        x.pledge(3, 1);
        Checks.feed(x, "m2c3=@0");
        Checks.same("amend(1)", x.amend(1), true);
        Checks.same("ARTICLES", x.realm(3), 3);
        Checks.same("its number", x.text(1), "m2c3=@0");
        Checks.same("the one ahead", x.text(0), "m0c0=0");
        Checks.same("the one behind", x.text(2), "m0c0=2");
        Checks.same("it is a BILL", x.ofArticle(1, 8), 0);
        Checks.same("PLEDGED, with one more", x.pledge(1, 1), 3);
        for (int faction = 0; faction < 4; faction++) {
            Checks.same("for which BILL", x.ofFaction(faction, 5), faction == 2 ? -1 : 1);
        }
        Checks.same("they vote for it", x.wouldVote(1, 0, false), 15);
        x.vote(1);
        Checks.same("and their MOOD to what it is about by then", x.ofFaction(3, 2), -1);
        Checks.same("is 1 less, no other", x.ofFaction(3, 0), 0);
    }

    private static void atMost24Articles() {
        Checks.sentence("ARTICLES: at most 24, numbered from 0 as they are written; each is a BILL at first");
        OnecodeChancery x = new OnecodeChancery();
        for (int k = 0; k < 24; k++) {
            int number = k;
            Checks.same("ARTICLES", x.realm(3), k);
            Checks.refuses("text(" + k + ") ahead of it", Checks.INDEX, () -> x.text(number));
            Checks.same("write()", Checks.write(x, "m" + k % 4 + "c0=" + k), k);
            Checks.same("a BILL", x.ofArticle(k, 8), 0);
            Checks.same("BILLS", x.realm(4), k + 1);
        }
        Checks.feed(x, "m0c0=1");
        Checks.refuses("the 25th", Checks.STATE, x::write);
        Checks.same("ARTICLES", x.realm(3), 24);
        for (int k = 0; k < 24; k++) {
            Checks.same("text(" + k + ")", x.text(k), "m" + k % 4 + "c0=" + k);
        }
    }

    private static void whatIsLostMayBeNamed() {
        Checks.sentence("LOST: its number stays, \"x\" and \"@\" may name it");
        OnecodeChancery x = new OnecodeChancery();
        Checks.lose(x, "m0c0=9");
        Checks.same("the next number", Checks.write(x, "m0c0=@0x0"), 1);
        Checks.same("what it says", x.text(0), "m0c0=9");
        Checks.write(x, "m0c0=1");
        Checks.feed(x, "m1c0=@1x0");
        Checks.same("by a TEXT that takes a place", x.amend(2), true);
        Checks.same("EXCEPTIONS to it", x.ofArticle(0, 12), 2);
        Checks.same("ARTICLES", x.realm(3), 3);
    }

    private static void leastAndGreatestAmount() {
        Checks.sentence("the least AMOUNT to which it APPLIES, the greatest one (both may cross)");
        String[] texts = {"", ">0", ">1", ">998", ">999", "<0", "<1", "<999", "<998", ">5>9", ">9>5", "<5<9", "<9<5",
            ">5<7", "<7>5", ">5<6", ">5<5", "<0>999", ">0<999"};
        int[][] due = {{0, 999}, {1, 999}, {2, 999}, {999, 999}, {1000, 999}, {0, -1}, {0, 0}, {0, 998}, {0, 997},
            {10, 999}, {10, 999}, {0, 4}, {0, 4}, {6, 6}, {6, 6}, {6, 5}, {6, 4}, {1000, -1}, {1, 998}};
        OnecodeChancery x = new OnecodeChancery();
        for (int k = 0; k < texts.length; k++) {
            Checks.write(x, "m0c0" + texts[k] + "=1");
            Checks.same("the least of " + texts[k], x.ofArticle(k, 4), due[k][0]);
            Checks.same("the greatest of " + texts[k], x.ofArticle(k, 5), due[k][1]);
        }
    }

    private static void outcomesAsNumbers() {
        Checks.sentence("its outcome: the SHARE; -1 with \"%\", -2 - the number with \"@\"");
        OnecodeChancery x = Sample.realmOfBills(24);
        String[] outcomes = {"0", "1", "99", "100", "%", "@0", "@1", "@22"};
        int[] due = {0, 1, 99, 100, -1, -2, -3, -24};
        for (int k = 0; k < outcomes.length; k++) {
            Checks.feed(x, "m0c0=" + outcomes[k]);
            x.amend(23);
            Checks.same("the outcome " + outcomes[k], x.ofArticle(23, 6), due[k]);
        }
    }

    private static void exceptionsAreCounted() {
        Checks.sentence("how many EXCEPTIONS to it there are (also those that are LOST)");
        OnecodeChancery x = new OnecodeChancery();
        Checks.write(x, "m0c0=1");
        for (int k = 1; k < 24; k++) {
            Checks.same("EXCEPTIONS", x.ofArticle(0, 12), k - 1);
            Checks.write(x, "m" + k % 4 + "c1=1x0");
            if (k % 2 == 0) {
                x.vote(k);
            }
            Checks.same("none to that one", x.ofArticle(k, 12), 0);
        }
        Checks.same("EXCEPTIONS at most", x.ofArticle(0, 12), 23);
        x.vote(0);
        Checks.same("to what is LOST", x.ofArticle(0, 12), 23);
        Checks.feed(x, "m0c0=1x1");
        x.amend(23);
        Checks.same("one fewer", x.ofArticle(0, 12), 22);
        Checks.same("an EXCEPTION to another", x.ofArticle(1, 12), 1);
    }

    private static void writtenAnew() {
        Checks.sentence("text: \"+\" FACT by FACT, then \"-\" FACT by FACT, each once, without blanks and leading zeros");
        is("m0c0-5-4-3-2-1-0+5+4+3+2+1+0=1", "m0c0+0+1+2+3+4+5-0-1-2-3-4-5=1");
        is("m0c0+5+0+5-3-3=001x001", "m0c0+0+5-3=1x1");
        is(" m 0 c 0 1 + 2 > 0 1 0 = 1", NO_ARTICLE);
        is(" m 0 c 0 1 + 2 > 010 < 00 = 000 x 0 ", "m0c01+2>10<0=0x0");
        is("m0c0<9>8=1", "m0c0<9>8=1");
        is("m0c0>8<9=1", "m0c0>8<9=1");
        is("m0c0<9<8=1", "m0c0<9<8=1");
        is("m0c0>9>9=1", "m0c0>9>9=1");
        is("m0c0=@001x000", "m0c0=@1x0");
        is("m0c0=% x 1", "m0c0=%x1");
    }
}
