/** A small realm with one of everything, made anew for each call that is looked at, and all that is seen of one. */
final class Sample {
    static final int DAY = 45;
    static final int RULES = 2;
    static final int CASES = 3;
    static final int ARTICLES = 5;
    static final int VOTED = 0;
    static final int REPEALED = 1;
    static final int LOST = 2;
    static final int BILL = 3;
    static final int PLEDGED_BILL = 4;
    static final int PLEDGED_FACTION = 1;
    static final int REVERSED_CASE = 0;
    static final int OPEN_CASE = 1;
    static final int JUDGED_CASE = 2;
    static final String FED = "m0c0=7";

    private Sample() {
    }

    static OnecodeChancery realm() {
        OnecodeChancery x = new OnecodeChancery();
        x.people(1, 30);
        x.swap(2, 0, 5);
        x.tie(1, 2);
        x.rule(0, 0, 15, 0, 0, 40, 2);
        x.rule(1, 0, 3, 1, 2, 70, 5);
        x.limit(1, 10, 500);
        Checks.enact(x, "m0c01=60");
        Checks.enact(x, "m0c0=20");
        Checks.lose(x, "m1c2<50=%");
        Checks.write(x, "m0c2+1=@0x0");
        Checks.write(x, "m1c3>9=90");
        Checks.strike(x, REPEALED);
        x.pledge(PLEDGED_FACTION, PLEDGED_BILL);
        x.taste(0, 1);
        x.mood(3, 2, -2);
        x.seats(2, 1, 9);
        x.pass(DAY);
        x.way(1, 1);
        x.dispute(0, 1, 0, 0, 1, 200, 3);
        x.dispute(2, 3, 3, 1, 32, 15, 0);
        x.dispute(1, 0, 1, 0, 1, 90, 40);
        x.judge(REVERSED_CASE, 1);
        x.appeal(REVERSED_CASE);
        x.judge(JUDGED_CASE, 3);
        Checks.feed(x, FED);
        x.call();
        return x;
    }

    /** All that can be seen of a realm; what the digest takes in already is not asked once more. */
    static String seen(OnecodeChancery x) {
        StringBuilder out = new StringBuilder().append(x.digest());
        for (int what = 0; what <= 13; what++) {
            out.append(' ').append(x.realm(what));
        }
        for (int matter = 0; matter < 4; matter++) {
            int tie = x.tie(matter, 0);
            x.tie(matter, tie);
            out.append(' ').append(tie);
        }
        for (int rule = 0; rule < x.realm(1); rule++) {
            for (int what : new int[] {0, 1, 2, 3, 4, 6}) {
                out.append(' ').append(x.ofRule(rule, what));
            }
        }
        for (int dispute = 0; dispute < x.realm(2); dispute++) {
            for (int what : new int[] {0, 1, 2, 3, 5}) {
                out.append(' ').append(x.ofCase(dispute, what));
            }
        }
        for (int article = 0; article < x.realm(3); article++) {
            out.append(' ').append(x.text(article));
        }
        return out.toString();
    }

    /** The TEXT that is fed, by what it makes of a BILL: its signs can't be asked for. (It is empty then.) */
    static String fedText(OnecodeChancery x, int bill) {
        return x.amend(bill) ? x.text(bill) : "no ARTICLE";
    }

    static OnecodeChancery realmOfBills(int bills) {
        OnecodeChancery x = new OnecodeChancery();
        for (int k = 0; k < bills; k++) {
            Checks.write(x, "m0c0=" + k);
        }
        return x;
    }
}
