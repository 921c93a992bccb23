import java.lang.reflect.InvocationTargetException;
import java.lang.reflect.Method;
import java.util.ArrayList;
import java.util.Arrays;
import java.util.Comparator;
import java.util.List;

/** Tests of sentences: each method that has a Says is one of its own, on objects of its own. */
abstract class Boundaries {
    static final int NONE = -1, BAD = -2, STATE = -3, FULL = -4, NOT_THERE = -5;
    static final int NOTHING = -11, CAST = -12, PLACE = -13, SIZE = -14;
    static final long NO = Long.MIN_VALUE;
    static final int LEAST = Integer.MIN_VALUE, MOST = Integer.MAX_VALUE;
    static final int EVEN = 0, LOSS = 1, SHARE = 2, TALMUD = 3, TURNED = 4, ARRIVAL = 5, RULES = 6;
    /** No rule. */
    static final int[] NO_RULE = {-1, 6, 7, LEAST, MOST};
    /** No part of a fraction. */
    static final int[] NO_PART = {-1, 2, 3, LEAST, MOST};
    /** No tape. */
    static final int[] NO_TAPE = {-1, 6, 7, LEAST, MOST};

    private Checks checks;
    private String sentence = "";

    final void due(String call, long got, long want) {
        checks.due(sentence + ": " + call, got, want);
    }

    /** Of claimants 0, 1, .. what is above and below the line, one by one. */
    final void dueAwards(EstateVessels x, int rule, long... aboveBelow) {
        for (int i = 0; 2 * i < aboveBelow.length; i++) {
            String call = "by rule " + rule + " of an estate of " + x.told(2) + " for claimant " + i;
            due("above the line " + call, x.award(rule, i, 0), aboveBelow[2 * i]);
            due("below the line " + call, x.award(rule, i, 1), aboveBelow[2 * i + 1]);
        }
    }

    final void dueWhole(EstateVessels x, int rule, long... awards) {
        long[] aboveBelow = new long[2 * awards.length];
        for (int i = 0; i < awards.length; i++) {
            aboveBelow[2 * i] = awards[i];
            aboveBelow[2 * i + 1] = 1;
        }
        dueAwards(x, rule, aboveBelow);
    }

    static EstateVessels of(int estate, int... claims) {
        return Make.of(estate, claims);
    }

    /** No claimant: beyond either end. */
    static int[] noClaimant(EstateVessels x) {
        return new int[] {-1, x.told(0), x.told(0) + 1, 6, LEAST, MOST};
    }

    private static List<Method> tests(Class<?> type) {
        List<Method> tests = new ArrayList<>();
        for (Method method : type.getDeclaredMethods()) {
            if (method.isAnnotationPresent(Says.class)) {
                tests.add(method);
            }
        }
        tests.sort(Comparator.comparing(Method::getName));
        return tests;
    }

    /** Runs each test; what each says it tells to the list. */
    final void run(Checks to, List<Says> told) {
        checks = to;
        for (Method test : tests(getClass())) {
            Says says = test.getAnnotation(Says.class);
            sentence = (says.promise() == 0 ? "Terms" : "Promise " + says.promise())
                    + " " + Arrays.toString(says.value()) + " (" + test.getName() + ")";
            int before = to.all();
            try {
                test.invoke(this);
                to.holds(sentence + " looks at something", to.all() > before);
            } catch (InvocationTargetException thrown) {
                to.holds(sentence + " threw " + thrown.getCause(), false);
            } catch (IllegalAccessException hidden) {
                to.holds(sentence + " can't be called", false);
            }
            told.add(says);
        }
    }
}
