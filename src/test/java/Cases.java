import java.util.function.Supplier;

/**
 * What the tests of the promises have in common. A test is named by its promise and its case; it
 * makes a garden of its own and asks it one thing, so that no test leans on another.
 */
abstract class Cases {
    static final Class<IndexOutOfBoundsException> BOUNDS = IndexOutOfBoundsException.class;
    static final Class<IllegalArgumentException> ARGUMENT = IllegalArgumentException.class;
    static final Class<IllegalStateException> STATE = IllegalStateException.class;
    static final String BOUNDS_THROWN = "throws " + BOUNDS.getName();
    static final String ARGUMENT_THROWN = "throws " + ARGUMENT.getName();
    static final String STATE_THROWN = "throws " + STATE.getName();
    static final int LEAST = Integer.MIN_VALUE;
    static final int GREATEST = Integer.MAX_VALUE;

    static final Checks CHECKS = new Checks();

    /** The call has to answer what is due. */
    static void due(String name, Supplier<ExamGarden> made, Call call, Object due) {
        CHECKS.test(name, () -> CHECKS.sameText("the answer", call.told(made.get()), String.valueOf(due)));
    }

    /** The call has to throw just this class, and to change nothing that any method shows. */
    static void refused(String name, Supplier<ExamGarden> made, Call call, Class<? extends RuntimeException> due) {
        CHECKS.test(name, () -> {
            CHECKS.sameText("the answer", call.told(made.get()), "throws " + due.getName());
            Supplier<ExamGarden> madeAndRefused = after(made, call::told);
            CHECKS.sameText("what is changed after it", Twins.difference(made, madeAndRefused), "nothing");
        });
    }

    /** Makes a garden, then calls each of these. */
    static Supplier<ExamGarden> after(Supplier<ExamGarden> made, Call... calls) {
        return () -> {
            ExamGarden garden = made.get();
            for (Call call : calls) {
                call.of(garden);
            }
            return garden;
        };
    }

    /** Calls over and over; answers what the last call does. */
    static Call times(int count, Call call) {
        return garden -> {
            Object last = null;
            for (int i = 0; i < count; i++) {
                last = call.of(garden);
            }
            return last;
        };
    }

    /** The answers of several calls, one behind the other. */
    static Call all(Call... calls) {
        return garden -> {
            StringBuilder answers = new StringBuilder();
            for (Call call : calls) {
                answers.append(answers.length() == 0 ? "" : " ").append(call.told(garden));
            }
            return answers.toString();
        };
    }
}
