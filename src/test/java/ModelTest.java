import java.lang.reflect.InvocationTargetException;
import java.lang.reflect.Method;
import java.util.ArrayList;
import java.util.List;
import java.util.Random;

/**
 * Runs of 512 calls on MourningRibbons and on SlowRibbons: each call has to answer, or to throw, the
 * same. A call that throws and yet changes something shows in the answers behind it.
 */
public final class ModelTest {
    private static final int RUNS = 300;
    private static final int CALLS = 512;
    private static final int[] ODD = {Integer.MIN_VALUE, Integer.MAX_VALUE, -1, 16, 17, 1 << 30};

    /** Each method with its weight and its parameters: p person, g degree, s stage, c colour, l stage days, d days. */
    private static final String[] METHODS = {
        "addPerson 8", "addChild 14 p", "marry 24 pp", "setStage 24 gscl", "die 12 p", "release 10 pp", "pass 14 d",
        "people 2", "living 2", "isAlive 2 p", "parentOf 2 p", "marriedTo 4 p", "degreeOf 10 pp", "kinOf 6 pg",
        "stageColour 3 gs", "stageDays 3 gs", "day 2", "colourOf 5 p", "colourIn 10 pd", "mourningsOf 5 p",
        "daysLeftFor 8 pp", "daysLeft 5 p", "daysUntilLighter 8 p", "daysIn 8 pc", "wearing 5 c", "strictest 3",
        "longestMourner 4", "daysWorn 3", "wouldMourn 6 p", "wouldWear 10 pp", "heaviestLoss 6", "meanDaysLeft 4",
        "digest 10",
    };

    private final Random random;
    private final MourningRibbons ribbons = new MourningRibbons();
    private final SlowRibbons slow = new SlowRibbons();
    private final List<String> told = new ArrayList<>();
    private final int longestPass;
    private final int longestStage;
    private final int deathsInTen;

    private ModelTest(int seed) {
        random = new Random(seed);
        longestPass = 1 + random.nextInt(seed % 3 == 0 ? 200 : 12);
        longestStage = 1 + random.nextInt(60);
        deathsInTen = 1 + random.nextInt(10);
    }

    public static void main(String[] args) throws ReflectiveOperationException {
        for (int seed = 0; seed < RUNS; seed++) {
            new ModelTest(seed).run(seed);
        }
        Check.end("ModelTest");
    }

    private void run(int seed) throws ReflectiveOperationException {
        boolean agrees = true;
        for (int call = 0; call < CALLS && agrees; call++) {
            agrees = step(pick(call));
        }
        if (agrees) {
            Check.same("run " + seed, "agrees", "agrees");
        } else {
            Check.fail("run " + seed + ": " + String.join("; ", told));
        }
    }

    private String[] pick(int call) {
        if (call < 12 && random.nextInt(4) > 0) {
            return "setStage 1 gscl".split(" ");
        }
        if (call < 40 && random.nextInt(3) > 0) {
            return METHODS[random.nextInt(3)].split(" ");
        }
        int total = 0;
        for (String method : METHODS) {
            total += Integer.parseInt(method.split(" ")[1]);
        }
        int at = random.nextInt(total);
        for (String method : METHODS) {
            at -= Integer.parseInt(method.split(" ")[1]);
            if (at < 0) {
                boolean spared = method.startsWith("die") && random.nextInt(10) >= deathsInTen;
                return (spared ? "digest 10" : method).split(" ");
            }
        }
        throw new IllegalStateException("the weights do not add up");
    }

    private boolean step(String[] method) throws ReflectiveOperationException {
        String kinds = method.length > 2 ? method[2] : "";
        Object[] arguments = new Object[kinds.length()];
        Class<?>[] types = new Class<?>[kinds.length()];
        StringBuilder call = new StringBuilder(method[0]).append('(');
        for (int i = 0; i < arguments.length; i++) {
            arguments[i] = argument(kinds.charAt(i));
            types[i] = int.class;
            call.append(i == 0 ? "" : ", ").append(arguments[i]);
        }
        String got = answer(ribbons, method[0], types, arguments);
        String due = answer(slow, method[0], types, arguments);
        told.add(call + ") " + got);
        if (!got.equals(due)) {
            told.add("due is " + due);
        }
        return got.equals(due);
    }

    private int argument(char kind) {
        if (random.nextInt(60) == 0) {
            return ODD[random.nextInt(ODD.length)];
        }
        boolean edge = random.nextInt(12) == 0;
        switch (kind) {
            case 'p': return random.nextInt(Math.max(1, slow.people())) + (edge ? 1 : 0);
            case 'g': return edge ? random.nextInt(6) : 1 + random.nextInt(4);
            case 's': return edge ? random.nextInt(5) - 1 : random.nextInt(3);
            case 'c': return edge ? random.nextInt(8) - 1 : random.nextInt(6);
            case 'l': return edge ? 58 + random.nextInt(5) : random.nextInt(longestStage + 1);
            default: return edge ? 198 + random.nextInt(5) : random.nextInt(longestPass + 1);
        }
    }

    private static String answer(Object of, String name, Class<?>[] types, Object[] arguments)
            throws ReflectiveOperationException {
        Method method = of.getClass().getMethod(name, types);
        try {
            return String.valueOf(method.invoke(of, arguments));
        } catch (InvocationTargetException e) {
            return "throws." + e.getCause().getClass().getSimpleName();
        }
    }
}
