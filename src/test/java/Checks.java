/** What the tests share: how an answer is looked at, and how a test ends. */
final class Checks {
    interface Call {
        Object answer();
    }

    static final Class<?> INDEX = IndexOutOfBoundsException.class;
    static final Class<?> ARGUMENT = IllegalArgumentException.class;
    static final Class<?> STATE = IllegalStateException.class;

    private static int looked;
    private static int wrong;
    private static String sentence = "";

    private Checks() {
    }

    /** The sentence of the document that is looked at from here on: what is not as due is told under it. */
    static void sentence(String words) {
        sentence = "[" + words + "] ";
    }

    static void same(String what, Object got, Object due) {
        looked++;
        if (!due.equals(got)) {
            wrong++;
            System.out.println(sentence + what + " answered " + got + ", due is " + due);
        }
    }

    static boolean isRefused(Object outcome) {
        return outcome instanceof String name && name.startsWith("java.lang.");
    }

    static void passTo(OnecodeChancery x, int day) {
        for (int left = day - x.realm(0); left > 0; left -= 400) {
            x.pass(Math.min(left, 400));
        }
    }

    /** The very class counts: what the machine throws is often a class below the one that is due. */
    static void refuses(String what, Class<?> due, Call call) {
        same(what, outcome(call), due.getName());
    }

    static Object outcome(Call call) {
        try {
            return call.answer();
        } catch (RuntimeException thrown) {
            return thrown.getClass().getName();
        }
    }

    static void feed(OnecodeChancery x, String text) {
        for (int k = 0; k < text.length(); k++) {
            x.feed(text.charAt(k));
        }
    }

    static int write(OnecodeChancery x, String text) {
        feed(x, text);
        return x.write();
    }

    /** Writes an ARTICLE and votes it into force, and leaves every MOOD as it was; its number. */
    static int enact(OnecodeChancery x, String text) {
        int number = write(x, text);
        int matter = x.ofArticle(number, 0);
        int[] before = new int[4];
        for (int faction = 0; faction < 4; faction++) {
            before[faction] = x.mood(faction, matter, 5);
            x.taste(faction, 0);
        }
        x.vote(number);
        for (int faction = 0; faction < 4; faction++) {
            x.mood(faction, matter, before[faction]);
        }
        return number;
    }

    /** Puts the REPEAL of an ARTICLE through, and leaves every MOOD as it was. */
    static int strike(OnecodeChancery x, int number) {
        int matter = x.ofArticle(number, 0);
        int[] before = new int[4];
        for (int faction = 0; faction < 4; faction++) {
            before[faction] = x.mood(faction, matter, -5);
        }
        int inFavour = x.repeal(number);
        for (int faction = 0; faction < 4; faction++) {
            x.mood(faction, matter, before[faction]);
        }
        return inFavour;
    }

    /** A BILL that no one votes for is LOST. */
    static int lose(OnecodeChancery x, String text) {
        int number = write(x, text);
        x.vote(number);
        return number;
    }

    static void end() {
        System.out.println(looked + " answers, " + wrong + " not as due");
        if (wrong != 0 || looked == 0) {
            System.exit(1);
        }
    }
}
