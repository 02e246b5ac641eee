import java.lang.reflect.Constructor;
import java.lang.reflect.Field;
import java.lang.reflect.Method;
import java.lang.reflect.Modifier;
import java.util.Arrays;
import java.util.Set;
import java.util.StringJoiner;
import java.util.TreeSet;

/** The public face: what the document's code block has, word for word, and nothing beside it. */
public final class FaceTest {
    private static final String FACE = """
        public OnecodeChancery();
        public int people(int parish, int people) throws IndexOutOfBoundsException, IllegalArgumentException;
        public int swap(int parish, int one, int two) throws IndexOutOfBoundsException, IllegalArgumentException;
        public int tie(int matter, int tie) throws IndexOutOfBoundsException, IllegalArgumentException;
        public int rule(int parish, int matter, int classes, int needs, int bars, int share, int proof) throws IndexOutOfBoundsException, IllegalArgumentException, IllegalStateException;
        public int limit(int rule, int least, int most) throws IndexOutOfBoundsException, IllegalArgumentException;
        public int dispute(int plaintiff, int defendant, int rank, int matter, int facts, int amount, int ago) throws IndexOutOfBoundsException, IllegalArgumentException, IllegalStateException;
        public int feed(int sign) throws IllegalArgumentException, IllegalStateException;
        public int write() throws IllegalStateException;
        public boolean amend(int bill) throws IndexOutOfBoundsException, IllegalStateException;
        public int seats(int house, int faction, int seats) throws IndexOutOfBoundsException, IllegalArgumentException;
        public int mood(int faction, int matter, int mood) throws IndexOutOfBoundsException, IllegalArgumentException;
        public int taste(int faction, int taste) throws IndexOutOfBoundsException, IllegalArgumentException;
        public int pledge(int faction, int bill) throws IndexOutOfBoundsException, IllegalStateException;
        public int vote(int bill) throws IndexOutOfBoundsException, IllegalStateException;
        public int repeal(int article) throws IndexOutOfBoundsException, IllegalStateException;
        public int way(int judge, int way) throws IndexOutOfBoundsException, IllegalArgumentException;
        public int judge(int dispute, int judge) throws IndexOutOfBoundsException, IllegalStateException;
        public int appeal(int dispute) throws IndexOutOfBoundsException, IllegalStateException;
        public int pass(int days) throws IllegalArgumentException, IllegalStateException;
        public int call();
        public int means(int parish, int fact) throws IndexOutOfBoundsException;
        public int ofRule(int rule, int what) throws IndexOutOfBoundsException, IllegalArgumentException;
        public int ofCase(int dispute, int what) throws IndexOutOfBoundsException, IllegalArgumentException;
        public int tells(int dispute, int article) throws IndexOutOfBoundsException;
        public int ofArticle(int article, int what) throws IndexOutOfBoundsException, IllegalArgumentException;
        public int liking(int faction, int article) throws IndexOutOfBoundsException;
        public int ofFaction(int faction, int what) throws IndexOutOfBoundsException, IllegalArgumentException;
        public int grid(int matter, int parish, int what) throws IndexOutOfBoundsException, IllegalArgumentException;
        public boolean isDead(int article, int parish) throws IndexOutOfBoundsException;
        public int gain(int rank) throws IndexOutOfBoundsException;
        public int held(int matter, int rank, int facts, int amount, int what) throws IndexOutOfBoundsException, IllegalArgumentException;
        public double uniformity();
        public int realm(int what) throws IllegalArgumentException;
        public String text(int article) throws IndexOutOfBoundsException;
        public int wouldVote(int article, int house, boolean isRepeal) throws IndexOutOfBoundsException;
        public int wouldJudge(int dispute, int judge) throws IndexOutOfBoundsException;
        public int without(int dispute, int article) throws IndexOutOfBoundsException;
        public boolean isSound();
        public long digest();
        """;

    public static void main(String[] args) {
        callsOfTheFace();
        classOfTheFace();
        nothingBesideIt();
        Checks.end();
    }

    private static String types(Class<?>[] types) {
        StringJoiner names = new StringJoiner(", ");
        for (Class<?> type : types) {
            names.add(type.getSimpleName());
        }
        return names.toString();
    }

    private static String line(int modifiers, String name, Class<?>[] parameters, Class<?>[] thrown) {
        String head = Modifier.toString(modifiers) + " " + name + "(" + types(parameters) + ")";
        return thrown.length == 0 ? head : head + " throws " + types(thrown);
    }

    private static void callsOfTheFace() {
        Checks.sentence("the public face (its calls)");
        Set<String> due = new TreeSet<>();
        FACE.lines().forEach(line -> due.add(withoutNames(line)));
        Set<String> got = new TreeSet<>();
        for (Constructor<?> made : OnecodeChancery.class.getDeclaredConstructors()) {
            got.add(line(made.getModifiers(), "OnecodeChancery", made.getParameterTypes(), made.getExceptionTypes()));
        }
        for (Method call : OnecodeChancery.class.getDeclaredMethods()) {
            if (!Modifier.isPrivate(call.getModifiers()) && !call.isSynthetic()) {
                got.add(line(call.getModifiers(), call.getReturnType().getSimpleName() + " " + call.getName(),
                    call.getParameterTypes(), call.getExceptionTypes()));
            }
        }
        Checks.same("how many calls", got.size(), due.size());
        for (String line : due) {
            Checks.same(line, got.contains(line), true);
        }
    }

    private static String withoutNames(String line) {
        int end = line.indexOf(')');
        String parameters = line.substring(0, end).replaceAll("(int|boolean) \\w+(?=,|$)", "$1");
        return parameters + line.substring(end).replace(";", "");
    }

    private static void classOfTheFace() {
        Checks.sentence("public final class OnecodeChancery");
        Class<?> face = OnecodeChancery.class;
        Checks.same("its modifiers", Modifier.toString(face.getModifiers()), "public final");
        Checks.same("its package", face.getPackageName(), "");
        Checks.same("above it", face.getSuperclass() == Object.class && face.getInterfaces().length == 0, true);
    }

    private static void nothingBesideIt() {
        Checks.sentence("LANGUAGE 1 and 5: no other member that is not private, and no static state");
        for (Field field : OnecodeChancery.class.getDeclaredFields()) {
            Checks.same(field.getName() + " is private", Modifier.isPrivate(field.getModifiers()), true);
        }
        for (Class<?> inside : OnecodeChancery.class.getDeclaredClasses()) {
            int modifiers = inside.getModifiers();
            boolean isHidden = !Modifier.isPublic(modifiers) && !Modifier.isProtected(modifiers);
            Checks.same(inside.getName() + " is hidden", isHidden && Modifier.isStatic(modifiers), true);
            Checks.same("classes inside " + inside.getName(), inside.getDeclaredClasses().length, 0);
            staticsAreConstants(inside);
        }
        staticsAreConstants(OnecodeChancery.class);
        Checks.same("classes", OnecodeChancery.class.getDeclaredClasses().length <= 12, true);
    }

    private static void staticsAreConstants(Class<?> of) {
        Class<?>[] kinds = {int.class, long.class, boolean.class, char.class, String.class};
        for (Field field : of.getDeclaredFields()) {
            boolean isConstant = Modifier.isFinal(field.getModifiers()) && Arrays.asList(kinds).contains(field.getType());
            Checks.same(of.getName() + "." + field.getName(), !Modifier.isStatic(field.getModifiers()) || isConstant, true);
        }
    }
}
