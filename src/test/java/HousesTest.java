/** Promises 11 to 16, 27, 28 and 36: HOUSES, FACTIONS, votes. */
public final class HousesTest {
    public static void main(String[] args) {
        promise11Seats();
        promise12Mood();
        promise13Taste();
        promise14Pledge();
        promise15Vote();
        votesAtTheEdge();
        whatPledgesCost();
        promise16Repeal();
        promise27Liking();
        promise28OfFaction();
        promise36WouldVote();
        Checks.end();
    }

    private static void promise11Seats() {
        OnecodeChancery x = new OnecodeChancery();
        Checks.same("seats(0, 0, 60)", x.seats(0, 0, 60), 75);
        Checks.same("seats(0, 3, 0)", x.seats(0, 3, 0), 70);
        Checks.same("seats(2, 1, 7): that HOUSE alone", x.seats(2, 1, 7), 22);
        Checks.same("ofFaction(0, 6)", x.ofFaction(0, 6), 60);
        Checks.same("ofFaction(1, 8)", x.ofFaction(1, 8), 7);
        Checks.refuses("seats(3, 0, 0)", Checks.INDEX, () -> x.seats(3, 0, 0));
        Checks.refuses("seats(-1, 0, -1)", Checks.INDEX, () -> x.seats(-1, 0, -1));
        Checks.refuses("seats(0, 4, 61)", Checks.INDEX, () -> x.seats(0, 4, 61));
        Checks.refuses("seats(0, -1, 0)", Checks.INDEX, () -> x.seats(0, -1, 0));
        Checks.refuses("seats(0, 0, 61)", Checks.ARGUMENT, () -> x.seats(0, 0, 61));
        Checks.refuses("seats(0, 0, -1)", Checks.ARGUMENT, () -> x.seats(0, 0, -1));
        Checks.same("SEATS after what was refused", x.seats(0, 1, 5), 70);
    }

    private static void promise12Mood() {
        OnecodeChancery x = new OnecodeChancery();
        Checks.same("mood at first", x.mood(3, 2, -5), 0);
        Checks.same("mood from -5", x.mood(3, 2, 5), -5);
        Checks.same("mood from 5", x.mood(3, 2, 1), 5);
        Checks.same("ofFaction(3, 2)", x.ofFaction(3, 2), 1);
        Checks.same("ofFaction(3, 1)", x.ofFaction(3, 1), 0);
        Checks.same("ofFaction(2, 2)", x.ofFaction(2, 2), 0);
        Checks.refuses("mood(4, 0, 0)", Checks.INDEX, () -> x.mood(4, 0, 0));
        Checks.refuses("mood(-1, 0, 6)", Checks.INDEX, () -> x.mood(-1, 0, 6));
        Checks.refuses("mood(0, 4, 6)", Checks.INDEX, () -> x.mood(0, 4, 6));
        Checks.refuses("mood(0, -1, 0)", Checks.INDEX, () -> x.mood(0, -1, 0));
        Checks.refuses("mood(3, 2, 6)", Checks.ARGUMENT, () -> x.mood(3, 2, 6));
        Checks.refuses("mood(3, 2, -6)", Checks.ARGUMENT, () -> x.mood(3, 2, -6));
        Checks.same("MOOD after what was refused", x.mood(3, 2, 0), 1);
    }

    private static void promise13Taste() {
        OnecodeChancery x = new OnecodeChancery();
        Checks.same("taste at first", x.taste(1, -3), 0);
        Checks.same("taste from -3", x.taste(1, 3), -3);
        Checks.same("ofFaction(1, 4)", x.ofFaction(1, 4), 3);
        Checks.same("ofFaction(0, 4)", x.ofFaction(0, 4), 0);
        Checks.refuses("taste(4, 0)", Checks.INDEX, () -> x.taste(4, 0));
        Checks.refuses("taste(-1, 4)", Checks.INDEX, () -> x.taste(-1, 4));
        Checks.refuses("taste(1, 4)", Checks.ARGUMENT, () -> x.taste(1, 4));
        Checks.refuses("taste(1, -4)", Checks.ARGUMENT, () -> x.taste(1, -4));
        Checks.same("TASTE after what was refused", x.taste(1, 0), 3);
    }

    private static void promise14Pledge() {
        OnecodeChancery x = new OnecodeChancery();
        Checks.refuses("pledge(0, 0) without ARTICLES", Checks.INDEX, () -> x.pledge(0, 0));
        Checks.write(x, "m0c0=1");
        Checks.write(x, "m0c0=2");
        Checks.same("pledge(0, 0)", x.pledge(0, 0), 1);
        Checks.same("pledge(2, 0)", x.pledge(2, 0), 2);
        Checks.same("pledge(1, 1)", x.pledge(1, 1), 1);
        Checks.refuses("PLEDGED for it already", Checks.STATE, () -> x.pledge(0, 0));
        Checks.refuses("PLEDGED for another", Checks.STATE, () -> x.pledge(0, 1));
        Checks.refuses("pledge(4, 0)", Checks.INDEX, () -> x.pledge(4, 0));
        Checks.refuses("pledge(-1, 0)", Checks.INDEX, () -> x.pledge(-1, 0));
        Checks.refuses("pledge(3, 2)", Checks.INDEX, () -> x.pledge(3, 2));
        Checks.refuses("pledge(0, -1) of one that is PLEDGED", Checks.INDEX, () -> x.pledge(0, -1));
        Checks.same("who is free still", x.ofFaction(3, 5), -1);
        x.vote(0);
        Checks.refuses("pledge for what was voted on", Checks.STATE, () -> x.pledge(3, 0));
        Checks.same("free again", x.ofFaction(0, 5), -1);
        Checks.same("PLEDGED for another BILL still", x.ofFaction(1, 5), 1);
        Checks.same("PLEDGED anew", x.pledge(0, 1), 2);
        int lost = Checks.lose(x, "m0c0=9");
        Checks.refuses("pledge for what is LOST", Checks.STATE, () -> x.pledge(3, lost));
    }

    private static void promise15Vote() {
        OnecodeChancery x = new OnecodeChancery();
        Checks.refuses("vote(0) without ARTICLES", Checks.INDEX, () -> x.vote(0));
        x.pass(3);
        x.mood(0, 1, 1);
        Checks.write(x, "m1c0=1");
        Checks.same("one FACTION for it, none against it", x.vote(0), 3);
        Checks.same("voted for", x.ofArticle(0, 8), 1);
        Checks.same("from which DAY on", x.ofArticle(0, 9), 33);
        Checks.refuses("vote on it again", Checks.STATE, () -> x.vote(0));
        Checks.refuses("vote(1)", Checks.INDEX, () -> x.vote(1));
        Checks.refuses("vote(-1)", Checks.INDEX, () -> x.vote(-1));
        Checks.write(x, "m0c0=1");
        Checks.same("no one for it", x.vote(1), 0);
        Checks.same("LOST", x.ofArticle(1, 8), 3);
        Checks.same("IN FORCE never", x.ofArticle(1, 9), -1);
        Checks.refuses("vote on what is LOST", Checks.STATE, () -> x.vote(1));
        Checks.strike(x, 0);
        Checks.refuses("vote on what is REPEALED", Checks.STATE, () -> x.vote(0));
    }

    private static void votesAtTheEdge() {
        OnecodeChancery x = new OnecodeChancery();
        x.mood(0, 0, 2);
        x.mood(1, 0, -1);
        Checks.write(x, "m0c0=1");
        Checks.same("as many SEATS against it", x.vote(0), 0);
        x.seats(0, 0, 6);
        Checks.write(x, "m0c0=1");
        Checks.same("one HOUSE", x.vote(1), 1);
        Checks.same("is not enough", x.ofArticle(1, 8), 3);
        x.seats(2, 1, 4);
        Checks.write(x, "m0c0=1");
        Checks.same("two HOUSES", x.vote(2), 2);
        Checks.same("are enough", x.ofArticle(2, 8), 1);
        x.pledge(1, Checks.write(x, "m0c0=1"));
        Checks.same("who is PLEDGED votes for it, whatever its LIKING", x.vote(3), 3);
        x.pledge(1, Checks.write(x, "m0c0=1"));
        Checks.write(x, "m0c0=1");
        Checks.same("a PLEDGE for another BILL is none", x.vote(5), 2);
        x.mood(0, 0, 0);
        Checks.same("who likes it neither way has no say", x.vote(4), 3);
    }

    private static void whatPledgesCost() {
        OnecodeChancery x = new OnecodeChancery();
        x.mood(0, 3, -4);
        x.mood(1, 3, -5);
        Checks.write(x, "m3c0=1");
        x.pledge(0, 0);
        x.pledge(1, 0);
        x.pledge(2, 0);
        x.seats(0, 0, 0);
        x.seats(0, 1, 0);
        x.seats(0, 2, 0);
        Checks.same("vote", x.vote(0), 2);
        Checks.same("the MOOD is 1 less", x.ofFaction(0, 3), -5);
        Checks.same("-5 at least", x.ofFaction(1, 3), -5);
        Checks.same("the MOOD of a third one", x.ofFaction(2, 3), -1);
        Checks.same("who was not PLEDGED", x.ofFaction(3, 3), 0);
        Checks.same("another MATTER", x.ofFaction(0, 0), 0);
        for (int faction = 0; faction < 4; faction++) {
            Checks.same("free again", x.ofFaction(faction, 5), -1);
            x.seats(1, faction, 0);
        }
        Checks.write(x, "m2c0=1");
        x.pledge(3, 1);
        x.seats(0, 3, 0);
        Checks.same("a vote that is LOST", x.vote(1), 1);
        Checks.same("costs as much", x.ofFaction(3, 2), -1);
        Checks.same("and frees as well", x.ofFaction(3, 5), -1);
    }

    private static void promise16Repeal() {
        OnecodeChancery x = new OnecodeChancery();
        Checks.refuses("repeal(0) without ARTICLES", Checks.INDEX, () -> x.repeal(0));
        Checks.write(x, "m0c0=1");
        Checks.refuses("repeal of a BILL", Checks.STATE, () -> x.repeal(0));
        Checks.refuses("repeal(1)", Checks.INDEX, () -> x.repeal(1));
        Checks.refuses("repeal(-1)", Checks.INDEX, () -> x.repeal(-1));
        x.vote(0);
        Checks.refuses("repeal of what is LOST", Checks.STATE, () -> x.repeal(0));
        Checks.enact(x, "m0c0=1");
        Checks.same("no one likes it either way", x.repeal(1), 0);
        Checks.same("it stays", x.ofArticle(1, 8), 1);
        x.mood(0, 0, 1);
        Checks.same("who likes it is against that", x.repeal(1), 0);
        x.mood(1, 0, -1);
        x.seats(0, 1, 6);
        Checks.same("one HOUSE", x.repeal(1), 1);
        Checks.same("is not enough", x.ofArticle(1, 8), 1);
        Checks.same("no end", x.ofArticle(1, 10), -1);
        x.seats(1, 0, 4);
        x.pass(10);
        Checks.same("two HOUSES", x.repeal(1), 2);
        Checks.same("are enough, ahead of its being IN FORCE too", x.ofArticle(1, 8), 2);
        Checks.same("its end", x.ofArticle(1, 10), 40);
        Checks.refuses("repeal of what is REPEALED", Checks.STATE, () -> x.repeal(1));
        x.pass(20);
        Checks.same("IN FORCE up to its end", x.ofArticle(1, 11), 1);
        x.pass(10);
        Checks.same("no more", x.ofArticle(1, 11), 0);
        Checks.enact(x, "m0c0=1");
        x.write();
        x.pledge(0, Checks.write(x, "m0c0=2"));
        x.mood(0, 0, -1);
        Checks.same("a PLEDGE has no say in a REPEAL", x.repeal(2), 3);
        Checks.same("and is not spent", x.ofFaction(0, 5), 3);
        Checks.same("nor costs a MOOD", x.ofFaction(0, 0), -1);
    }

    private static void promise27Liking() {
        OnecodeChancery x = new OnecodeChancery();
        Checks.refuses("liking(0, 0) without ARTICLES", Checks.INDEX, () -> x.liking(0, 0));
        int[] shares = {0, 24, 25, 33, 34, 42, 50, 58, 59, 67, 75, 76, 100};
        int[] threes = {-6, -3, -3, -2, -1, 0, 0, 0, 1, 2, 3, 3, 6};
        int[] ones = {-2, -1, -1, 0, 0, 0, 0, 0, 0, 0, 1, 1, 2};
        x.taste(0, 3);
        x.taste(1, -3);
        x.taste(2, 1);
        x.mood(2, 1, 4);
        for (int k = 0; k < shares.length; k++) {
            Checks.write(x, "m1c0=" + shares[k]);
            Checks.same("TASTE 3, SHARE " + shares[k], x.liking(0, k), threes[k]);
            Checks.same("TASTE -3, SHARE " + shares[k], x.liking(1, k), -threes[k]);
            Checks.same("TASTE 1, MOOD 4, SHARE " + shares[k], x.liking(2, k), 4 + ones[k]);
            Checks.same("TASTE 0, SHARE " + shares[k], x.liking(3, k), 0);
        }
        int custom = Checks.write(x, "m1c0=%");
        int other = Checks.write(x, "m1c0=@0");
        int far = Checks.write(x, "m2c0=100");
        x.mood(0, 1, -2);
        Checks.same("with % the MOOD alone", x.liking(0, custom), -2);
        Checks.same("with @ the MOOD alone", x.liking(0, other), -2);
        Checks.same("the MOOD to its MATTER", x.liking(0, far), 6);
        Checks.refuses("liking(4, 0)", Checks.INDEX, () -> x.liking(4, 0));
        Checks.refuses("liking(-1, 0)", Checks.INDEX, () -> x.liking(-1, 0));
        Checks.refuses("liking(0, 16)", Checks.INDEX, () -> x.liking(0, 16));
        Checks.refuses("liking(0, -1)", Checks.INDEX, () -> x.liking(0, -1));
    }

    private static void promise28OfFaction() {
        OnecodeChancery x = new OnecodeChancery();
        Checks.write(x, "m0c0=1");
        Checks.write(x, "m0c0=1");
        x.pledge(2, 1);
        x.taste(2, -2);
        for (int k = 0; k < 4; k++) {
            x.mood(2, k, k - 5);
        }
        for (int k = 0; k < 3; k++) {
            x.seats(k, 2, 20 + k);
        }
        int[] due = {-5, -4, -3, -2, -2, 1, 20, 21, 22};
        for (int what = 0; what <= 8; what++) {
            Checks.same("ofFaction(2, " + what + ")", x.ofFaction(2, what), due[what]);
        }
        Checks.refuses("ofFaction(4, 0)", Checks.INDEX, () -> x.ofFaction(4, 0));
        Checks.refuses("ofFaction(-1, 9)", Checks.INDEX, () -> x.ofFaction(-1, 9));
        Checks.refuses("ofFaction(0, 9)", Checks.ARGUMENT, () -> x.ofFaction(0, 9));
        Checks.refuses("ofFaction(0, -1)", Checks.ARGUMENT, () -> x.ofFaction(0, -1));
    }

    private static void promise36WouldVote() {
        OnecodeChancery x = new OnecodeChancery();
        Checks.refuses("wouldVote(0, 0, false) without ARTICLES", Checks.INDEX, () -> x.wouldVote(0, 0, false));
        Checks.write(x, "m0c0=75");
        Checks.write(x, "m0c0=75");
        for (int faction = 0; faction < 4; faction++) {
            x.seats(0, faction, 1 + faction);
            x.seats(1, faction, 10 + faction * faction);
        }
        x.taste(0, 1);
        x.mood(1, 0, -1);
        x.mood(2, 0, -3);
        Checks.same("for it less against it", x.wouldVote(0, 0, false), 1 - 2 - 3);
        Checks.same("in another HOUSE", x.wouldVote(0, 1, false), 10 - 11 - 14);
        Checks.same("for its REPEAL", x.wouldVote(0, 0, true), -1 + 2 + 3);
        x.pledge(2, 0);
        Checks.same("with a PLEDGE", x.wouldVote(0, 0, false), 1 - 2 + 3);
        Checks.same("the other BILL", x.wouldVote(1, 0, false), 1 - 2 - 3);
        Checks.same("a REPEAL goes by LIKING", x.wouldVote(0, 0, true), -1 + 2 + 3);
        Checks.same("nothing is changed", x.ofArticle(0, 8), 0);
        Checks.same("nor is anyone free", x.ofFaction(2, 5), 0);
        Checks.same("it passes as was told", x.vote(0), 3);
        Checks.same("of one that was voted for", x.wouldVote(0, 0, false), 1 - 2 - 3);
        Checks.refuses("wouldVote(2, 0, true)", Checks.INDEX, () -> x.wouldVote(2, 0, true));
        Checks.refuses("wouldVote(-1, 0, true)", Checks.INDEX, () -> x.wouldVote(-1, 0, true));
        Checks.refuses("wouldVote(0, 3, true)", Checks.INDEX, () -> x.wouldVote(0, 3, true));
        Checks.refuses("wouldVote(0, -1, true)", Checks.INDEX, () -> x.wouldVote(0, -1, true));
    }
}
