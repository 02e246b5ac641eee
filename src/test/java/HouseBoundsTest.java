/** The bounds that the "Terms" name for HOUSES, FACTIONS and votes (section 3), one method a sentence. */
public final class HouseBoundsTest {
    public static void main(String[] args) {
        seatsAtFirst();
        moodAtFirst();
        tasteAtFirst();
        likingIsMoodAndTaste();
        likingWithoutAShare();
        votesByLiking();
        pledgedOnesVoteForIt();
        pledgedForOneAtATime();
        freeBehindTheVote();
        moodIsOneLess();
        minusFiveAtLeast();
        moreSeatsForThanAgainst();
        twoHousesOrMore();
        fromDayAnd30On();
        lostIsABillNoMore();
        repealByLiking();
        repealByTwoHouses();
        repealedFromDayAnd30();
        repealIsNotForPledges();
        wouldVoteWhateverItIs();
        Checks.end();
    }

    private static OnecodeChancery withBill() {
        OnecodeChancery x = new OnecodeChancery();
        Checks.write(x, "m0c0=50");
        return x;
    }

    private static void seatsAtFirst() {
        Checks.sentence("SEATS of each FACTION in each HOUSE (0 to 60; 5 at first)");
        OnecodeChancery x = new OnecodeChancery();
        for (int house = 0; house < 3; house++) {
            int sum = 20;
            for (int faction = 0; faction < 4; faction++) {
                Checks.same("SEATS at first", x.ofFaction(faction, 6 + house), 5);
                for (int seats : new int[] {0, 1, 59, 60}) {
                    sum += seats - x.ofFaction(faction, 6 + house);
                    Checks.same("all SEATS of that HOUSE", x.seats(house, faction, seats), sum);
                    Checks.same("SEATS", x.ofFaction(faction, 6 + house), seats);
                }
            }
            Checks.same("all SEATS at most", sum, 240);
        }
        for (int house = 0; house < 3; house++) {
            for (int faction = 0; faction < 4; faction++) {
                Checks.same("down to none", x.seats(house, faction, 0), 180 - 60 * faction);
            }
        }
    }

    private static void moodAtFirst() {
        Checks.sentence("its MOOD to each MATTER (-5 to 5; 0 at first)");
        OnecodeChancery x = new OnecodeChancery();
        for (int faction = 0; faction < 4; faction++) {
            for (int matter = 0; matter < 4; matter++) {
                int before = 0;
                for (int mood : new int[] {-5, -4, 4, 5, faction - matter}) {
                    Checks.same("MOOD before", x.mood(faction, matter, mood), before);
                    Checks.same("MOOD", x.ofFaction(faction, matter), mood);
                    before = mood;
                }
            }
        }
        for (int faction = 0; faction < 4; faction++) {
            for (int matter = 0; matter < 4; matter++) {
                Checks.same("each its own", x.ofFaction(faction, matter), faction - matter);
            }
        }
    }

    private static void tasteAtFirst() {
        Checks.sentence("its TASTE (-3 to 3; 0 at first)");
        OnecodeChancery x = new OnecodeChancery();
        for (int faction = 0; faction < 4; faction++) {
            int before = 0;
            for (int taste : new int[] {-3, -2, 2, 3, faction}) {
                Checks.same("TASTE before", x.taste(faction, taste), before);
                Checks.same("TASTE", x.ofFaction(faction, 4), taste);
                before = taste;
            }
        }
        for (int faction = 0; faction < 4; faction++) {
            Checks.same("each its own", x.ofFaction(faction, 4), faction);
        }
    }

    private static void likingIsMoodAndTaste() {
        Checks.sentence("LIKING: MOOD to its MATTER, and TASTE * (SHARE - 50) / 25 more");
        int[] shares = {0, 24, 25, 26, 41, 42, 50, 58, 59, 74, 75, 76, 100};
        int[][] due = {{6, 3, 3, 2, 1, 0, 0, 0, -1, -2, -3, -3, -6}, {4, 2, 2, 1, 0, 0, 0, 0, 0, -1, -2, -2, -4},
            {2, 1, 1, 0, 0, 0, 0, 0, 0, 0, -1, -1, -2}, {0, 0, 0, 0, 0, 0, 0, 0, 0, 0, 0, 0, 0}};
        OnecodeChancery x = new OnecodeChancery();
        for (int k = 0; k < shares.length; k++) {
            Checks.write(x, "m2c0=" + shares[k]);
        }
        for (int taste = -3; taste <= 3; taste++) {
            x.taste(1, taste);
            for (int k = 0; k < shares.length; k++) {
                int more = taste < 0 ? due[taste + 3][k] : -due[3 - taste][k];
                Checks.same("TASTE " + taste + ", SHARE " + shares[k], x.liking(1, k), more);
            }
        }
        for (int mood : new int[] {-5, 5}) {
            x.mood(1, 2, mood);
            Checks.same("MOOD " + mood + " and the most", x.liking(1, 12), mood + 6);
            Checks.same("MOOD " + mood + " and the least", x.liking(1, 0), mood - 6);
        }
    }

    private static void likingWithoutAShare() {
        Checks.sentence("with \"%\" or \"@\" the MOOD alone");
        OnecodeChancery x = new OnecodeChancery();
        Checks.write(x, "m3c0=100");
        Checks.write(x, "m3c0=%");
        Checks.write(x, "m3c0=@0");
        Checks.write(x, "m3c0=@1x0");
        for (int taste = -3; taste <= 3; taste += 3) {
            x.taste(2, taste);
            x.mood(2, 3, taste == 0 ? 5 : -4);
            for (int article = 1; article <= 3; article++) {
                Checks.same("TASTE " + taste + ", ARTICLE " + article, x.liking(2, article), taste == 0 ? 5 : -4);
            }
        }
    }

    private static void votesByLiking() {
        Checks.sentence("it votes for it with a LIKING above 0, against it with one below 0, otherwise not");
        OnecodeChancery x = withBill();
        x.seats(0, 2, 9);
        int[] moods = {-5, -1, 0, 1, 5};
        int[] due = {-9, -9, 0, 9, 9};
        for (int k = 0; k < moods.length; k++) {
            x.mood(2, 0, moods[k]);
            Checks.same("a LIKING of " + moods[k], x.wouldVote(0, 0, false), due[k]);
        }
        x.mood(2, 0, 1);
        x.taste(2, 1);
        int[] shares = {24, 25, 26, 1, 0};
        int[] tasted = {0, 0, 9, 0, -9};
        for (int k = 0; k < shares.length; k++) {
            Checks.write(x, "m0c0=" + shares[k]);
            Checks.same("a SHARE of " + shares[k], x.wouldVote(1 + k, 0, false), tasted[k]);
        }
    }

    private static void pledgedOnesVoteForIt() {
        Checks.sentence("one that is PLEDGED for it votes for it");
        for (int mood = -5; mood <= 5; mood += 5) {
            OnecodeChancery x = withBill();
            Checks.write(x, "m0c0=50");
            x.mood(1, 0, mood);
            x.pledge(1, 0);
            Checks.same("for it, MOOD " + mood, x.wouldVote(0, 2, false), 5);
            Checks.same("for the other by its LIKING", x.wouldVote(1, 2, false), mood);
            Checks.same("a REPEAL by its LIKING", x.wouldVote(0, 2, true), -mood);
            Checks.same("in the vote", x.vote(0), 3);
        }
    }

    private static void pledgedForOneAtATime() {
        Checks.sentence("a FACTION can be PLEDGED for one BILL at a time");
        OnecodeChancery x = withBill();
        Checks.write(x, "m0c0=50");
        for (int faction = 0; faction < 4; faction++) {
            int one = faction;
            Checks.same("how many are PLEDGED", x.pledge(faction, 0), faction + 1);
            Checks.refuses("for the same", Checks.STATE, () -> x.pledge(one, 0));
            Checks.refuses("for another", Checks.STATE, () -> x.pledge(one, 1));
            Checks.same("for which", x.ofFaction(faction, 5), 0);
        }
        Checks.same("all of them", x.wouldVote(0, 0, false), 20);
    }

    private static void freeBehindTheVote() {
        Checks.sentence("behind the vote on that it is free again");
        for (int pledged = 1; pledged <= 4; pledged++) {
            OnecodeChancery x = withBill();
            Checks.write(x, "m1c0=50");
            for (int faction = 0; faction < 4; faction++) {
                x.pledge(faction, faction < pledged ? 0 : 1);
            }
            x.vote(0);
            for (int faction = 0; faction < 4; faction++) {
                Checks.same("for which BILL", x.ofFaction(faction, 5), faction < pledged ? -1 : 1);
                Checks.same("its MOOD", x.ofFaction(faction, 0), faction < pledged ? -1 : 0);
                Checks.same("its MOOD to the other MATTER", x.ofFaction(faction, 1), 0);
            }
            Checks.same("PLEDGED anew", x.pledge(0, 1), 5 - pledged);
        }
    }

    private static void moodIsOneLess() {
        Checks.sentence("its MOOD to that MATTER is 1 less");
        for (int matter = 0; matter < 4; matter++) {
            for (int mood = -4; mood <= 5; mood++) {
                OnecodeChancery x = new OnecodeChancery();
                Checks.write(x, "m" + matter + "c0=50");
                x.mood(3, matter, mood);
                x.pledge(3, 0);
                Checks.same("a PLEDGE alone costs nothing", x.ofFaction(3, matter), mood);
                x.vote(0);
                Checks.same("MOOD " + mood, x.ofFaction(3, matter), mood - 1);
                Checks.same("to another MATTER", x.ofFaction(3, (matter + 1) % 4), 0);
                Checks.same("of another FACTION", x.ofFaction(0, matter), 0);
            }
        }
    }

    private static void minusFiveAtLeast() {
        Checks.sentence("its MOOD: -5 at least");
        OnecodeChancery x = new OnecodeChancery();
        x.mood(0, 0, -4);
        for (int k = 0; k < 3; k++) {
            Checks.write(x, "m0c0=50");
            x.pledge(0, k);
            x.vote(k);
            Checks.same("behind the vote " + k, x.ofFaction(0, 0), -5);
        }
    }

    private static void moreSeatsForThanAgainst() {
        Checks.sentence("a HOUSE is for it with more SEATS for than against it");
        int[][] seats = {{5, 4, 1}, {5, 5, 0}, {5, 6, 0}, {0, 0, 0}, {1, 0, 1}, {60, 59, 1}, {60, 60, 0}, {0, 1, 0}};
        for (int[] s : seats) {
            OnecodeChancery x = withBill();
            x.mood(0, 0, 1);
            x.mood(1, 0, -5);
            for (int house = 0; house < 3; house++) {
                x.seats(house, 0, s[0]);
                x.seats(house, 1, s[1]);
                x.seats(house, 2, 60);
            }
            Checks.same(s[0] + " for it, " + s[1] + " against it", x.wouldVote(0, 1, false), s[0] - s[1]);
            Checks.same("HOUSES for it", x.vote(0), 3 * s[2]);
        }
    }

    /** A realm in which so many HOUSES are for the BILL 0, the last ones. */
    private static OnecodeChancery withHouses(int houses) {
        OnecodeChancery x = withBill();
        x.mood(0, 0, 1);
        for (int house = 0; house < 3 - houses; house++) {
            x.seats(house, 0, 0);
        }
        return x;
    }

    private static void twoHousesOrMore() {
        Checks.sentence("with two HOUSES or more for it, it is IN FORCE; otherwise it is LOST");
        for (int houses = 0; houses <= 3; houses++) {
            OnecodeChancery x = withHouses(houses);
            Checks.same("HOUSES for it", x.vote(0), houses);
            Checks.same("what it is", x.ofArticle(0, 8), houses >= 2 ? 1 : 3);
            Checks.same("from which DAY on", x.ofArticle(0, 9), houses >= 2 ? 30 : -1);
            Checks.same("voted for", x.realm(5), houses >= 2 ? 1 : 0);
            Checks.same("LOST", x.realm(7), houses >= 2 ? 0 : 1);
            Checks.same("BILLS", x.realm(4), 0);
        }
        for (int against = 0; against < 3; against++) {
            OnecodeChancery x = withHouses(3);
            x.mood(3, 0, -1);
            x.seats(against, 3, 60);
            for (int house = 0; house < 3; house++) {
                x.seats(house, 3, house == against ? 60 : 0);
            }
            Checks.same("whichever is against it", x.vote(0), 2);
            Checks.same("voted for", x.ofArticle(0, 8), 1);
        }
    }

    private static void fromDayAnd30On() {
        Checks.sentence("it is IN FORCE from DAY + 30 on");
        for (int day : new int[] {0, 1, 29, 30, 399, 2970, 2971, 3000}) {
            OnecodeChancery x = withHouses(3);
            Checks.passTo(x, day);
            x.vote(0);
            Checks.same("from which DAY on", x.ofArticle(0, 9), day + 30);
            Checks.same("no end", x.ofArticle(0, 10), -1);
            Checks.passTo(x, Math.min(day + 29, 3000));
            Checks.same("the DAY ahead", x.ofArticle(0, 11), 0);
            if (day <= 2970) {
                x.pass(1);
                Checks.same("that DAY", x.ofArticle(0, 11), 1);
                Checks.passTo(x, 3000);
                Checks.same("the last DAY", x.ofArticle(0, 11), 1);
            }
        }
    }

    private static void lostIsABillNoMore() {
        Checks.sentence("LOST: it is a BILL no more, and never IN FORCE");
        OnecodeChancery x = withHouses(1);
        Checks.same("HOUSES for it", x.vote(0), 1);
        Checks.feed(x, "m0c0=1");
        Checks.refuses("amend", Checks.STATE, () -> x.amend(0));
        Checks.refuses("pledge", Checks.STATE, () -> x.pledge(0, 0));
        Checks.refuses("vote", Checks.STATE, () -> x.vote(0));
        Checks.refuses("repeal", Checks.STATE, () -> x.repeal(0));
        for (int k = 0; k < 7; k++) {
            x.pass(400);
            Checks.same("IN FORCE", x.ofArticle(0, 11), 0);
        }
        Checks.same("the next number", x.write(), 1);
        Checks.same("what it says still", x.text(0), "m0c0=50");
    }

    private static OnecodeChancery votedFor() {
        OnecodeChancery x = new OnecodeChancery();
        Checks.enact(x, "m0c0=50");
        return x;
    }

    private static void repealByLiking() {
        Checks.sentence("REPEAL: a FACTION with a LIKING below 0 is for that, one with a LIKING above 0 against it");
        int[] moods = {-5, -1, 0, 1, 5};
        int[] due = {9, 9, 0, -9, -9};
        for (int k = 0; k < moods.length; k++) {
            OnecodeChancery x = votedFor();
            x.mood(3, 0, moods[k]);
            for (int house = 0; house < 3; house++) {
                x.seats(house, 3, 9);
                Checks.same("a LIKING of " + moods[k], x.wouldVote(0, house, true), due[k]);
            }
            Checks.same("HOUSES for that", x.repeal(0), due[k] > 0 ? 3 : 0);
            Checks.same("what it is then", x.ofArticle(0, 8), due[k] > 0 ? 2 : 1);
        }
        OnecodeChancery x = votedFor();
        x.mood(0, 0, 1);
        x.mood(1, 0, -1);
        Checks.same("as many for that as against it", x.repeal(0), 0);
        x.seats(1, 1, 6);
        Checks.same("more in one HOUSE", x.repeal(0), 1);
    }

    private static void repealByTwoHouses() {
        Checks.sentence("REPEAL: with two HOUSES or more for it, it is REPEALED");
        for (int houses = 0; houses <= 3; houses++) {
            OnecodeChancery x = votedFor();
            x.mood(2, 0, -1);
            for (int house = houses; house < 3; house++) {
                x.seats(house, 2, 0);
            }
            Checks.same("HOUSES for that", x.repeal(0), houses);
            Checks.same("what it is", x.ofArticle(0, 8), houses >= 2 ? 2 : 1);
            Checks.same("its end", x.ofArticle(0, 10), houses >= 2 ? 30 : -1);
            Checks.same("from which DAY on", x.ofArticle(0, 9), 30);
            Checks.same("REPEALED", x.realm(6), houses >= 2 ? 1 : 0);
            Checks.same("voted for and not REPEALED", x.realm(5), houses >= 2 ? 0 : 1);
            if (houses < 2) {
                Checks.same("once more", x.repeal(0), houses);
            }
        }
    }

    private static void repealedFromDayAnd30() {
        Checks.sentence("its end is DAY + 30");
        for (int day : new int[] {0, 1, 29, 30, 31, 2970, 3000}) {
            OnecodeChancery x = votedFor();
            Checks.passTo(x, day);
            Checks.same("HOUSES for that", Checks.strike(x, 0), 3);
            Checks.same("its end", x.ofArticle(0, 10), day + 30);
            Checks.passTo(x, Math.min(3000, day + 29));
            Checks.same("the DAY ahead", x.ofArticle(0, 11), day == 0 ? 0 : 1);
            if (day <= 2970) {
                x.pass(1);
                Checks.same("its end, IN FORCE", x.ofArticle(0, 11), 0);
            }
            Checks.same("it is sound", x.isSound(), true);
        }
    }

    private static void repealIsNotForPledges() {
        Checks.sentence("a REPEAL goes by LIKING; who is PLEDGED for a BILL stays so");
        OnecodeChancery x = votedFor();
        Checks.write(x, "m0c0=50");
        x.mood(0, 0, -2);
        x.pledge(0, 1);
        Checks.same("HOUSES for the REPEAL", x.repeal(0), 3);
        Checks.same("PLEDGED still", x.ofFaction(0, 5), 1);
        Checks.same("its MOOD", x.ofFaction(0, 0), -2);
    }

    private static void wouldVoteWhateverItIs() {
        Checks.sentence("if it was voted on now (whatever it is; PLEDGED ones are for the BILL)");
        OnecodeChancery x = Sample.realm();
        x.taste(0, 0);
        x.mood(2, 0, 3);
        x.mood(3, 0, -1);
        x.mood(2, 1, -3);
        for (int house = 0; house < 3; house++) {
            x.seats(house, 1, 8);
            x.seats(house, 2, 8);
            x.seats(house, 3, 7);
        }
        int[] bills = {1, 1, -8, 1, 0};
        int[] repeals = {-1, -1, 8, -1, 8};
        for (int article = 0; article < Sample.ARTICLES; article++) {
            for (int house = 0; house < 3; house++) {
                Checks.same("the BILL " + article, x.wouldVote(article, house, false), bills[article]);
                Checks.same("its REPEAL", x.wouldVote(article, house, true), repeals[article]);
            }
        }
        Checks.same("as it was", x.ofFaction(Sample.PLEDGED_FACTION, 5), Sample.PLEDGED_BILL);
    }
}
