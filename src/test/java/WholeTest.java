/** Promises 29, 30, 34, 39 and 40: the GRID, what is DEAD, and the realm as a whole. */
public final class WholeTest {
    public static void main(String[] args) {
        promise29Grid();
        marksOfTheGrid();
        gridOfEveryKind();
        allMarksInTheirOrder();
        gridAfterOtherWalks();
        promise30IsDead();
        promise34Realm();
        promise39IsSound();
        promise40Digest();
        Checks.end();
    }

    private static void sameGrid(String what, OnecodeChancery x, int matter, int parish, int... due) {
        for (int k = 0; k <= 6; k++) {
            Checks.same("grid, " + k + ", " + what, x.grid(matter, parish, k), due[k]);
        }
    }

    private static void promise29Grid() {
        OnecodeChancery x = new OnecodeChancery();
        for (int matter = 0; matter < 4; matter++) {
            sameGrid("at first", x, matter, 5 - matter, 256, 256, 0, 0, 0, -1, 0);
        }
        Checks.enact(x, "m1c2+0>9=10");
        sameGrid("not IN FORCE yet", x, 1, 0, 512, 512, 0, 0, 0, -1, 0);
        x.pass(30);
        sameGrid("IN FORCE", x, 1, 0, 512, 480, 0, 0, 0, -1, 320);
        sameGrid("of another MATTER", x, 2, 0, 256, 256, 0, 0, 0, -1, 0);
        Checks.enact(x, "m1c2+1=20");
        x.pass(30);
        sameGrid("with a CLASH", x, 1, 3, 512, 448 - 16, 16, 0, 0, 256 + 3 * 2 + 1, 16 * 10 + 48 * 20);
        Checks.refuses("grid(4, 0, 7)", Checks.INDEX, () -> x.grid(4, 0, 7));
        Checks.refuses("grid(-1, 0, 0)", Checks.INDEX, () -> x.grid(-1, 0, 0));
        Checks.refuses("grid(0, 6, 0)", Checks.INDEX, () -> x.grid(0, 6, 0));
        Checks.refuses("grid(0, -1, -1)", Checks.INDEX, () -> x.grid(0, -1, -1));
        Checks.refuses("grid(0, 0, 7)", Checks.ARGUMENT, () -> x.grid(0, 0, 7));
        Checks.refuses("grid(0, 0, -1)", Checks.ARGUMENT, () -> x.grid(0, 0, -1));
    }

    private static void marksOfTheGrid() {
        OnecodeChancery x = new OnecodeChancery();
        int[] due = {2, 3, 3, 3, 3, 3, 4, 4, 6, 6};
        String[] texts = {"m0c0<50=1", "m0c0>50=1", "m0c0<51=1", "m0c0<0=1", "m0c0>999=1", "m1c0<77=1", "m0c0>998=1",
            "m0c0<999=1", "m0c0<7>7=1", "m0c0<8<50=1x0"};
        for (int k = 0; k < texts.length; k++) {
            Checks.write(x, texts[k]);
            Checks.same("MARKS with " + texts[k], x.grid(0, 0, 0), 256 * due[k]);
        }
        x.vote(8);
        Checks.same("one of an EXCEPTION is left", x.grid(0, 0, 0), 256 * 5);
        x.vote(0);
        Checks.same("one stands in another ARTICLE too", x.grid(0, 0, 0), 256 * 5);
        x.vote(9);
        Checks.same("none of what is LOST", x.grid(0, 0, 0), 256 * 3);
        Checks.enact(x, "m0c0<300=1");
        Checks.strike(x, 10);
        x.pass(60);
        Checks.same("of what is REPEALED still", x.grid(0, 0, 0), 256 * 4);
        Checks.same("of the other MATTER", x.grid(1, 0, 0), 512);
        x.write();
        Checks.feed(x, "m1c0=1");
        x.amend(5);
        Checks.same("of what the BILL says by now", x.grid(1, 0, 0), 256);
    }

    private static void gridOfEveryKind() {
        OnecodeChancery x = new OnecodeChancery();
        Checks.enact(x, "m3c0123=%");
        Checks.enact(x, "m3c1+5=@0x0");
        Checks.enact(x, "m3c3=7");
        x.pass(30);
        x.rule(2, 3, 4, 0, 0, 40, 1);
        x.rule(2, 3, 8, 0, 32, 7, 1);
        sameGrid("of a PARISH with a CUSTOM", x, 3, 2, 256, 64 + 32, 32, 32, 0, 192 + 32, 64 * 40 + 32 * 7);
        sameGrid("of a PARISH without one", x, 3, 1, 256, 64 + 32 + 64, 64, 32, 0, 192, 0);
        x.pass(1);
        x.rule(1, 3, 1, 0, 0, 1, 1);
        sameGrid("as of this DAY", x, 3, 1, 256, 32 + 64, 64, 32, 64, 192, 64);
        x.tie(3, 2);
        sameGrid("both sides of that PARISH", x, 3, 1, 256, 32 + 64, 64, 32, 64, 192, 64);
        x.tie(3, 1);
        sameGrid("the defendant's side too", x, 3, 2, 256, 64 + 32, 32, 32, 0, 192 + 32, 64 * 40 + 32 * 7);
    }

    private static void allMarksInTheirOrder() {
        OnecodeChancery x = new OnecodeChancery();
        for (int k = 0; k < 24; k++) {
            Checks.write(x, "m0c0<" + (990 - 40 * k) + ">" + (k % 2 == 0 ? 500 + k : 500 - k) + "=" + k);
            Checks.same("MARKS of " + (k + 1), x.grid(0, 0, 0), 256 * (3 + 2 * k));
        }
        x = new OnecodeChancery();
        Checks.enact(x, "m0c0<600=1");
        Checks.enact(x, "m0c0<500=1");
        Checks.enact(x, "m0c0<300=10");
        Checks.enact(x, "m0c0<400=1");
        Checks.enact(x, "m1c3<1+0+1+2+3+4+5=0");
        Checks.enact(x, "m1c0>0-0-1-2-3-4-5=100");
        x.pass(30);
        sameGrid("MARKS out of order", x, 0, 0, 256 * 5, 256 * 5 - 64 * 4, 64, 0, 4, 0, 64 * 3);
        sameGrid("a SHARE of 0 and one of 100", x, 1, 0, 512, 510, 0, 0, 0, -1, 100);
    }

    private static void gridAfterOtherWalks() {
        OnecodeChancery x = new OnecodeChancery();
        Checks.enact(x, "m0c0-0<10=5");
        Checks.enact(x, "m0c0-0>20<900=6");
        x.pass(30);
        for (int k = 0; k < 3; k++) {
            Checks.same("held(2, 3, 63, 999, 3)", x.held(2, 3, 63, 999, 3), 60);
            sameGrid("after that", x, 0, 0, 1024, 1024 - 64, 0, 0, 1, -1, 32 * 5 + 32 * 6);
            Checks.same("isDead(" + k % 2 + ", 3)", x.isDead(k % 2, 3), false);
            sameGrid("after that", x, 0, 0, 1024, 1024 - 64, 0, 0, 1, -1, 32 * 5 + 32 * 6);
            sameGrid("of another MATTER", x, 1, 3, 256, 256, 0, 0, 0, -1, 0);
        }
    }

    private static void promise30IsDead() {
        OnecodeChancery x = new OnecodeChancery();
        Checks.refuses("isDead(0, 0) without ARTICLES", Checks.INDEX, () -> x.isDead(0, 0));
        Checks.enact(x, "m0c0=30");
        Checks.same("not IN FORCE yet", x.isDead(0, 0), true);
        x.pass(30);
        Checks.same("the only one", x.isDead(0, 0), false);
        Checks.enact(x, "m0c01=30");
        Checks.enact(x, "m0c0+1-1=5");
        Checks.enact(x, "m0c3<10>9=5");
        Checks.enact(x, "m0c2+0>500=%");
        Checks.enact(x, "m0c01=30x1");
        Checks.enact(x, "m1c0=@0");
        x.pass(30);
        boolean[] due = {true, false, true, true, true, true, false};
        for (int article = 0; article < due.length; article++) {
            Checks.same("isDead(" + article + ", 2)", x.isDead(article, 2), due[article]);
        }
        x.rule(2, 0, 15, 0, 0, 3, 1);
        Checks.same("by the CUSTOM of that PARISH", x.isDead(4, 2), false);
        Checks.same("not of another", x.isDead(4, 1), true);
        x.limit(0, 0, 500);
        Checks.same("on each MARK", x.isDead(4, 2), true);
        Checks.lose(x, "m0c0=1");
        Checks.same("what is LOST", x.isDead(7, 0), true);
        deadButForOneCase();
        Checks.refuses("isDead(8, 0)", Checks.INDEX, () -> x.isDead(8, 0));
        Checks.refuses("isDead(-1, 0)", Checks.INDEX, () -> x.isDead(-1, 0));
        Checks.refuses("isDead(0, 6)", Checks.INDEX, () -> x.isDead(0, 6));
        Checks.refuses("isDead(0, -1)", Checks.INDEX, () -> x.isDead(0, -1));
    }

    private static void deadButForOneCase() {
        OnecodeChancery x = new OnecodeChancery();
        Checks.enact(x, "m0c0-0-1-2-3-4-5<1=0");
        Checks.enact(x, "m0c3+0+1+2+3+4+5>998=0");
        Checks.enact(x, "m0c1+0-1=%");
        x.pass(30);
        Checks.same("but for the first CASE", x.isDead(0, 5), false);
        Checks.same("but for the last CASE", x.isDead(1, 5), false);
        Checks.same("without a CUSTOM", x.isDead(2, 5), true);
        x.rule(5, 0, 15, 0, 0, 0, 1);
        Checks.same("with a CUSTOM of this DAY", x.isDead(2, 5), false);
        Checks.enact(x, "m0c1+0-1=%");
        x.pass(30);
        Checks.same("with another that tells the same", x.isDead(2, 5), true);
    }

    private static void promise34Realm() {
        OnecodeChancery x = new OnecodeChancery();
        x.rule(0, 0, 15, 0, 0, 30, 1);
        Checks.enact(x, "m0c0=30");
        Checks.enact(x, "m0c1=40");
        Checks.enact(x, "m2c0=40");
        Checks.enact(x, "m2c0=40");
        Checks.write(x, "m0c0=1");
        Checks.write(x, "m0c0=1");
        Checks.lose(x, "m0c0=1");
        Checks.strike(x, 2);
        x.pass(30);
        Checks.strike(x, 3);
        for (int rank = 0; rank < 3; rank++) {
            x.dispute(0, 0, rank, 0, 0, 100, 0);
        }
        x.dispute(1, 0, 2, 0, 0, 100, 0);
        x.way(0, 1);
        x.judge(0, 0);
        x.judge(1, 1);
        x.judge(2, 1);
        x.appeal(0);
        x.appeal(1);
        Checks.feed(x, "m0c");
        x.call();
        x.call();
        int[] due = {30, 1, 4, 7, 2, 2, 2, 1, 3, 3, 1, 2, 3, 2};
        for (int what = 0; what <= 13; what++) {
            Checks.same("realm(" + what + ")", x.realm(what), due[what]);
        }
        x.tie(0, 1);
        x.rule(0, 0, 15, 0, 0, 31, 2);
        Checks.same("realm(11) as of the DAY of the act, by the TIE", x.realm(11), 4);
        Checks.refuses("realm(14)", Checks.ARGUMENT, () -> x.realm(14));
        Checks.refuses("realm(-1)", Checks.ARGUMENT, () -> x.realm(-1));
    }

    private static void promise39IsSound() {
        OnecodeChancery x = new OnecodeChancery();
        x.swap(0, 1, 2);
        x.swap(0, 1, 1);
        x.swap(0, 5, 2);
        Checks.enact(x, "m0c0=30");
        Checks.write(x, "m0c0=30x0");
        x.pledge(0, 1);
        x.dispute(0, 0, 0, 0, 0, 1, 0);
        x.judge(0, 0);
        Checks.strike(x, 0);
        Checks.lose(x, "m0c0=1");
        Checks.same("isSound()", x.isSound(), true);
        x.vote(1);
        Checks.same("isSound() after the vote", x.isSound(), true);
    }

    private static void promise40Digest() {
        OnecodeChancery x = new OnecodeChancery();
        Checks.same("digest() at first", x.digest(), digestOf(x));
        x.people(3, 33);
        x.swap(4, 0, 5);
        x.tie(0, 2);
        x.rule(0, 0, 15, 0, 0, 25, 1);
        x.rule(2, 0, 1, 1, 2, 35, 3);
        x.limit(1, 3, 500);
        x.rule(0, 1, 5, 2, 0, 15, 1);
        x.rule(1, 0, 1, 0, 0, 45, 1);
        x.limit(3, 100, 100);
        x.rule(1, 0, 2, 0, 0, 55, 1);
        x.people(1, 40);
        Checks.enact(x, "m0c01>99=65");
        Checks.enact(x, "m0c0+3=@0x0");
        Checks.enact(x, "m1c2<20=%");
        x.pledge(3, Checks.write(x, "m2c3=80"));
        x.taste(2, -3);
        x.mood(1, 2, -4);
        x.seats(1, 2, 44);
        x.pass(45);
        x.dispute(0, 2, 0, 0, 1, 250, 3);
        x.dispute(0, 2, 0, 0, 1, 300, 45);
        x.dispute(2, 4, 1, 0, 8, 400, 0);
        x.dispute(0, 2, 0, 0, 1, 250, 0);
        x.way(3, 3);
        x.judge(0, 0);
        x.judge(1, 1);
        x.judge(3, 3);
        x.appeal(3);
        Checks.strike(x, 0);
        Checks.feed(x, "m0");
        x.call();
        Checks.same("digest()", x.digest(), digestOf(x));
        Checks.same("digest() again: nothing is changed", x.digest(), digestOf(x));
        x.pass(40);
        Checks.same("digest() later", x.digest(), digestOf(x));
        fullRealm();
    }

    private static void fullRealm() {
        OnecodeChancery x = new OnecodeChancery();
        for (int k = 0; k < 40; k++) {
            x.rule(k % 6, k % 3, 15, k % 2, 0, 2 * k, 1 + k % 5);
        }
        for (int k = 0; k < 24; k++) {
            Checks.write(x, "m" + k % 4 + "c0123=" + (k % 3 == 2 ? "@" + k / 2 : k % 3 == 1 ? "%" : "" + k)
                + (k % 4 == 3 ? "x" + k / 3 : ""));
            x.mood(0, k % 4, 5);
            x.vote(k);
            x.dispute(k % 6, k % 5, k % 4, k % 3, k % 3, 40 * k, 0);
        }
        x.pass(30);
        for (int k = 0; k < 24; k++) {
            x.judge(k, k % 4);
        }
        Checks.same("realm(1) of a full one", x.realm(1), 40);
        Checks.same("realm(2) of a full one", x.realm(2), 24);
        Checks.same("realm(8) of a full one", x.realm(8), 24);
        Checks.same("digest() of a full one", x.digest(), digestOf(x));
    }

    /** The checksum as the document tells it, from the answers of the other calls alone. */
    static long digestOf(OnecodeChancery x) {
        java.util.List<Long> values = new java.util.ArrayList<>();
        for (int what = 0; what <= 13; what++) {
            values.add((long) x.realm(what));
        }
        for (int parish = 0; parish < 6; parish++) {
            int people = x.people(parish, 1);
            x.people(parish, people);
            values.add((long) people);
            for (int fact = 0; fact < 6; fact++) {
                values.add((long) x.means(parish, fact));
            }
        }
        for (int rule = 0; rule < x.realm(1); rule++) {
            for (int what : new int[] {5, 7, 8, 9, 10, 11}) {
                values.add((long) x.ofRule(rule, what));
            }
        }
        for (int dispute = 0; dispute < x.realm(2); dispute++) {
            for (int what : new int[] {4, 6, 7, 8, 9, 10, 11, 12, 13}) {
                values.add((long) x.ofCase(dispute, what));
            }
        }
        for (int article = 0; article < x.realm(3); article++) {
            for (int what = 0; what <= 12; what++) {
                values.add((long) x.ofArticle(article, what));
            }
            for (int faction = 0; faction < 4; faction++) {
                values.add((long) x.liking(faction, article));
            }
        }
        for (int faction = 0; faction < 4; faction++) {
            for (int what = 0; what <= 8; what++) {
                values.add((long) x.ofFaction(faction, what));
            }
        }
        for (int judge = 0; judge < 4; judge++) {
            int way = x.way(judge, 0);
            x.way(judge, way);
            values.add((long) way);
        }
        for (int matter = 0; matter < 4; matter++) {
            for (int what = 0; what <= 6; what++) {
                values.add((long) x.grid(matter, 0, what));
            }
        }
        for (int rank = 0; rank < 4; rank++) {
            values.add((long) x.gain(rank));
        }
        for (int what = 0; what <= 3; what++) {
            values.add((long) x.held(0, 0, 0, 100, what));
        }
        values.add((long) (64 * x.uniformity()));
        values.add(x.isSound() ? 1L : 0L);
        long d = 4099;
        for (long value : values) {
            d = d * 31 + value;
        }
        return d;
    }
}
