import java.lang.reflect.InvocationTargetException;
import java.lang.reflect.Method;
import java.util.ArrayList;
import java.util.Arrays;
import java.util.Comparator;
import java.util.List;
import java.util.Map;
import java.util.TreeMap;

/**
 * Runs of calls on Lostroom and PlainRoom, each answer of one held against that of the other. The runs are the same each
 * time, and each outcome of each method that the document tells has to come up, or the runs would tell nothing of it.
 */
public final class RandomRunsTest {
    private static final int RUNS = 1500, CALLS = 512;
    private final Map<String, Integer> outcomes = new TreeMap<>();
    private final List<Method> methods = new ArrayList<>();
    private final Map<Method, Method> twins = new TreeMap<>(Comparator.comparing(Method::getName));
    private final StringBuilder history = new StringBuilder();
    private long seed;
    private PlainRoom plain;
    private int flavour;
    private boolean isWild;
    private boolean isHasty;

    public static void main(String[] args) throws ReflectiveOperationException {
        new RandomRunsTest().run();
    }

    private void run() throws ReflectiveOperationException {
        for (Method method : Lostroom.class.getMethods()) {
            if (method.getDeclaringClass() != Lostroom.class) continue;
            methods.add(method);
            twins.put(method, PlainRoom.class.getMethod(method.getName(), method.getParameterTypes()));
        }
        methods.sort(Comparator.comparing(Method::getName));
        for (int i = 0; i < RUNS; i++) {
            seed = 1000003L * i + 17;
            flavour = i % 4;
            isWild = i % 10 == 9;
            isHasty = i % 20 == 7;
            if (!runOnce(i)) System.exit(1);
        }
        if (!allOutcomesCameUp()) System.exit(1);
        System.out.println(RUNS + " runs of " + CALLS + " calls, " + outcomes.size() + " outcomes, none wrong");
    }

    private boolean runOnce(int number) throws ReflectiveOperationException {
        Lostroom room = new Lostroom();
        plain = new PlainRoom();
        history.setLength(0);
        for (int i = 0; i < CALLS; i++) {
            Method method = nextMethod();
            Object[] arguments = argumentsFor(method);
            String got = outcome(method, room, arguments);
            String want = outcome(twins.get(method), plain, arguments);
            history.append(method.getName()).append(Arrays.toString(arguments)).append(" = ").append(got).append('\n');
            if (!got.equals(want)) {
                System.out.println(history + "run " + number + ": due is " + want + ", got " + got);
                return false;
            }
            String kind = got.startsWith("throws") ? got : got.equals("-1") ? "NONE" : "answers";
            outcomes.merge(method.getName() + " " + kind, 1, Integer::sum);
        }
        return true;
    }

    private static String outcome(Method method, Object object, Object[] arguments) throws ReflectiveOperationException {
        try {
            return String.valueOf(method.invoke(object, arguments));
        } catch (InvocationTargetException e) {
            return "throws " + e.getCause().getClass().getSimpleName();
        }
    }

    private boolean allOutcomesCameUp() {
        boolean isRight = true;
        for (Method method : methods) {
            List<String> due = new ArrayList<>();
            due.add("answers");
            for (Class<?> type : method.getExceptionTypes()) due.add("throws " + type.getSimpleName());
            for (String kind : due) {
                if (outcomes.getOrDefault(method.getName() + " " + kind, 0) < 20) {
                    System.out.println("too seldom: " + method.getName() + " " + kind);
                    isRight = false;
                }
            }
        }
        return isRight;
    }

    /** A row of numbers that looks random and is the same each time. */
    private int below(int bound) {
        seed = seed * 6364136223846793005L + 1442695040888963407L;
        return (int) ((seed >>> 33) % bound);
    }

    private Method nextMethod() {
        Method any = methods.get(below(methods.size()));
        boolean isRare = any.getName().equals("withdraw") && below(4) > 0;
        if (!isRare && below(3) > 0) return any;
        String[] often = {"find", "claim", "tell", "release", "sell", "payOut", "pass", "send", "destroy", "turnUp"};
        String name = often[below(often.length)];
        for (Method method : methods) if (method.getName().equals(name)) return method;
        throw new IllegalStateException(name);
    }

    private int oneOf(int... numbers) {
        return numbers[below(numbers.length)];
    }

    /** A number from 0 on, now and then one just outside, or far outside. */
    private int number(int count) {
        int chance = below(isWild ? 6 : 60);
        if (chance == 0) return oneOf(-1, count, count + 1, Integer.MIN_VALUE, Integer.MAX_VALUE);
        return below(Math.max(1, count));
    }

    // What the arguments hang on is asked of the plain one, since the other is good for so many calls only.
    private int aFind() {
        return number(plain.countFinds());
    }

    private int aFindThatIs(int state) {
        for (int i = 0; i < 10; i++) {
            int find = below(Math.max(1, plain.countFinds()));
            if (find < plain.countFinds() && plain.ofFind(find, 0) == state) return find;
        }
        return aFind();
    }

    /** Most pairs tell nothing, so one is looked for that is worth to be tried, but for its score and rivals. */
    private Object[] aPair(int state) {
        for (int i = 0; i < 20 && plain.countFinds() > 0 && plain.countClaims() > 0; i++) {
            int find = below(plain.countFinds());
            int claim = below(plain.countClaims());
            boolean isOpen = plain.ofClaim(claim, 0) == 0;
            if (isOpen && plain.ofFind(find, 0) == state && plain.isProven(find, claim)) return row(find, claim);
        }
        return row(aFind(), aClaim());
    }

    private int hiddenWords() {
        return plain.countFinds() == 0 ? 0 : plain.hiddenWordsOf(below(plain.countFinds()));
    }

    private int aClaim() {
        return number(plain.countClaims());
    }

    private int aKind() {
        return below(8) == 0 ? number(8) : flavour == 0 ? below(2) : oneOf(0, 0, 0, 1, 7);
    }

    private int aPlace() {
        return below(8) == 0 ? number(10) : oneOf(0, 1, 6, 7);
    }

    private int aRoom() {
        return below(4) == 0 ? number(6) : below(3);
    }

    private int someWords() {
        int chance = below(isWild ? 12 : 120);
        if (chance == 0) return oneOf(-1, 1 << 24, Integer.MIN_VALUE, Integer.MAX_VALUE, 0xFFFFFF + 1);
        if (chance == 1) return oneOf(0xFFFFFF, 1 << 23, 0);
        int words = 0;
        int width = flavour == 3 ? 24 : 7;
        for (int i = below(4); i > 0; i--) words |= 1 << below(width);
        return words;
    }

    private int aDay() {
        int today = plain.today();
        int chance = below(isWild ? 8 : 40);
        if (chance == 0) return oneOf(-1, today + 1, 0, today);
        return Math.max(0, today - below(14));
    }

    private int someDays() {
        int chance = below(40);
        if (chance == 0) return oneOf(0, 401, 400, -1);
        if (isHasty) return 340 + below(61);
        return chance < 6 ? 60 + below(60) : 1 + below(7);
    }

    private Object[] argumentsFor(Method method) {
        switch (method.getName()) {
            case "near": return row(number(flavour == 3 ? 24 : 8), number(flavour == 3 ? 24 : 8));
            case "alike": return row(number(flavour == 0 ? 3 : 8), number(flavour == 0 ? 3 : 8));
            case "rule": return row(number(8), below(9) == 0 ? oneOf(0, 401, 400, 1) : 1 + below(20),
                below(9) == 0 ? oneOf(-1, 51, 50) : below(51));
            case "stop": return row(number(4), number(6));
            case "threshold": return row(below(9) == 0 ? oneOf(0, 201, 200, 1) : 30 + below(60));
            case "find": return aFindToTell();
            case "see": return row(aFind(), someWords());
            case "send": return row(aFind(), aRoom());
            case "turnUp": return row(aFindThatIs(2), aRoom());
            case "lose": case "audit": return row(aRoom());
            case "hold": return new Object[] {aFind(), below(4) == 0};
            case "claim": return aClaimToTell();
            case "say": return row(aClaim(), someWords());
            case "tell": return row(aClaim(), below(2) == 0 ? someWords() : hiddenWords());
            case "withdraw": case "question": return row(aClaim());
            case "extend": return row(aFind(), below(6) == 0 ? oneOf(0, 366, 365, -1) : 1 + below(20));
            case "sell": return row(aFind(), below(6) == 0 ? oneOf(0, 10000, 9999, 1) : 1 + below(12));
            case "destroy": case "isDue": return row(aFind());
            case "pass": return row(someDays());
            case "today": return row();
            case "release": return aPair(0);
            case "payOut": return aPair(4);
            case "fit": case "isProven": return row(aFind(), aClaim());
            case "candidate": return row(aClaim(), below(6) == 0 ? number(32) : below(4));
            case "ofFind": return row(aFind(), number(5));
            case "hand": return new Object[] {aFind(), below(3) == 0 ? number(13) : 0, below(2) == 0};
            case "ofClaim": return row(aClaim(), number(4));
            case "money": return row(number(3));
            default: throw new IllegalStateException(method.getName());
        }
    }

    private Object[] aFindToTell() {
        int words = someWords();
        int secret = someWords();
        if (below(20) > 0) secret &= ~words;
        int daysAgo = below(20) == 0 ? oneOf(-1, plain.today() + 1, plain.today()) : Math.min(plain.today(), below(10));
        int value = below(10) == 0 ? oneOf(-1, 0, 9999, 10000) : below(1000);
        return row(aKind(), aPlace(), daysAgo, words, secret, value, aRoom());
    }

    private Object[] aClaimToTell() {
        int from = aDay();
        int to = below(3) == 0 ? from : Math.max(from - below(2) * (isWild ? 1 : 0), aDay());
        return row(aKind(), aPlace(), from, to, someWords());
    }

    private static Object[] row(int... numbers) {
        Object[] row = new Object[numbers.length];
        for (int i = 0; i < numbers.length; i++) row[i] = numbers[i];
        return row;
    }
}
